/** Part 4: storms and fights; promise 32. */
final class StormTest {
    private static final Checks checks = new Checks("StormTest");

    public static void main(String[] args) {
        stormAsked();
        stormImpossible();
        stormFromPits();
        stormTired();
        stormRounds();
        guards();
        win();
        winWithRefuge();
        winOverMany();
        winOverOneMan();
        refugeThatIsHeld();
        heldByAttacker();
        noHalfOfOne();
        quarters();
        eighths();
        lose();
        loseLastMan();
        even();
        unopposed();
        spiked();
        dismountedStays();
        thrownIn();
        stormGate();
        loserAtHome();
        checks.end();
    }

    /** Companies of 100 at 11 (besiegers) and 50 at 12 (garrison), which has a work. */
    private static Siegelines facing(int work) {
        Siegelines x = Fields.plain(5, 5);
        x.ground(12, 0, 0, work == 5 ? 0 : work, 20);
        x.stores(0, 0, 99, 9, 60);
        x.stores(1, 0, 99, 9, 60);
        x.company(0, 11, 100);
        x.company(1, 12, 50);
        x.company(1, 24, 10);
        x.company(0, 0, 10);
        return x;
    }

    private static void stormAsked() {
        int[] times = {1, -1, -1, 3, 3, 0, 2, 1};
        for (int work = 0; work <= 7; work++) {
            if (work == 5) {
                continue;
            }
            Siegelines x = facing(work);
            int want = times[work] < 0 ? -1 : 192500 - times[work] * 77000;
            checks.due("by night against work " + work, want, x.storm(0, 12));
            x.begin();
            x.pass(5);
            int byDay = times[work] < 0 ? -1 : 154000 - times[work] * 77000;
            checks.due("by day against work " + work, byDay, x.storm(0, 12));
            x.order(1, 2, 0);
            int guarded = times[work] < 0 ? -1 : 154000 - times[work] * 77000 * 3 / 2;
            checks.due("against one at guard, on work " + work, guarded, x.storm(0, 12));
        }
        Siegelines y = Fields.plain(5, 5);
        y.ground(12, 0, 0, 5, 0);
        y.company(0, 12, 100);
        y.company(1, 11, 100);
        checks.due("twice in a trench", 192500 - 2 * 154000, y.storm(1, 12));
        checks.due("against nobody there", 192500, y.storm(1, 6));
        checks.due("against own ones alone", 192500, y.storm(0, 13));
    }

    private static void stormImpossible() {
        Siegelines x = facing(0);
        checks.due("what does not touch", -1, x.storm(0, 13));
        checks.due("its own square", -1, x.storm(0, 11));
        checks.due("aslant", -1, x.storm(0, 7));
        x.begin();
        x.order(0, 5, 13);
        x.pass(1);
        checks.due("it stays", 11, x.ofCompany(0, 1));
        checks.due("its order stays", 5, x.ofCompany(0, 4));
        checks.due("tired all the same", 1, x.ofCompany(0, 3));
        Siegelines wall = facing(1);
        wall.begin();
        wall.order(0, 5, 12);
        wall.pass(1);
        checks.due("no wall is stormed", 11, wall.ofCompany(0, 1));
        checks.due("no fight", 0, wall.ofSide(0, 10) + wall.ofSide(1, 10));
        int[][] wrong = {{4, 0}, {-1, 0}, {0, 25}, {0, -1}, {9, 99}};
        for (int[] w : wrong) {
            checks.refuses("storm(" + w[0] + ", " + w[1] + ")", Checks.INDEX, x, () -> x.storm(w[0], w[1]));
        }
    }

    private static void stormFromPits() {
        int[] from = {-1, 0, 1, 0, 0, 1, -1, 1};
        for (int work = 0; work <= 7; work++) {
            if (work == 1 || work == 3 || work == 4) {
                continue;
            }
            Siegelines x = Fields.plain(5, 5);
            x.ground(11, 0, 0, work, 0);
            x.ground(12, 0, 0, 2, 0);
            x.company(0, 11, 100);
            x.company(1, 24, 50);
            x.begin();
            checks.due("into a ditch out of work " + work, from[work] == 1 ? 192500 : -1, x.storm(0, 12));
            x.order(0, 5, 12);
            x.pass(1);
            checks.due("where it is then", from[work] == 1 ? 12 : 11, x.ofCompany(0, 1));
        }
        for (int work = 3; work <= 4; work++) {
            Siegelines x = Fields.plain(5, 5);
            x.ground(11, 0, 0, work, 0);
            x.ground(12, 0, 0, 2, 0);
            x.company(1, 11, 100);
            checks.due("not out of town or cover", -1, x.storm(0, 12));
        }
    }

    private static void stormTired() {
        Siegelines x = facing(0);
        x.begin();
        x.order(0, 5, 24);
        x.pass(10);
        checks.due("tired of 10", 10, x.ofCompany(0, 3));
        checks.due("counts as it is", 100 * 4 * 110 - 77000, x.storm(0, 12));
        x.order(0, 5, 12);
        x.pass(1);
        checks.due("but it rests", 8, x.ofCompany(0, 3));
        checks.due("where it was", 11, x.ofCompany(0, 1));
        checks.due("100 * 6 * 110", -11000, x.storm(0, 12));
        x.pass(1);
        checks.due("tired of 9 it loses", 1, x.ofSide(1, 10));
    }

    private static void stormRounds() {
        Siegelines x = Fields.plain(5, 5);
        x.stores(0, 0, 0, 0, 1);
        x.stores(1, 0, 0, 0, 1);
        x.company(0, 11, 1);
        x.company(1, 12, 1);
        x.company(1, 12, 1);
        x.company(1, 24, 1);
        x.begin();
        x.order(0, 3, 0);
        x.order(1, 2, 0);
        x.order(2, 3, 0);
        x.pass(1);
        checks.due("663 * 5 / 4 less (714 + 663) * 3 / 2", 828 - 2065, x.storm(0, 12));
        int[] works = {4, 6};
        int[] times = {3, 2};
        for (int i = 0; i < 2; i++) {
            Siegelines y = Fields.plain(5, 5);
            y.ground(12, 0, 0, works[i], 0);
            y.stores(0, 0, 0, 0, 1);
            y.stores(1, 0, 0, 0, 1);
            y.company(0, 11, 1);
            y.company(1, 12, 1);
            y.begin();
            y.order(1, 3, 0);
            y.pass(1);
            y.order(1, 2, 0);
            checks.due("663 times the work first, then 3 / 2", 714 * 5 / 4 - 663 * times[i] * 3 / 2, y.storm(0, 12));
        }
    }

    private static void guards() {
        Siegelines x = facing(0);
        x.begin();
        x.order(1, 3, 0);
        x.pass(10);
        x.order(1, 2, 0);
        checks.due("guard of one tired of 10 does not count", 154000 - 50 * 4 * 110, x.storm(0, 12));
        x.pass(1);
        checks.due("tired of 8", 8, x.ofCompany(1, 3));
        checks.due("now it counts", 154000 - 50 * 6 * 110 * 3 / 2, x.storm(0, 12));
    }

    private static void win() {
        Siegelines x = facing(0);
        x.begin();
        x.order(1, 3, 0);
        x.order(0, 5, 12);
        x.pass(1);
        checks.due("the winner is there", 12, x.ofCompany(0, 1));
        checks.due("at rest", 0, x.ofCompany(0, 4));
        checks.due("without a goal", -1, x.ofCompany(0, 5));
        checks.due("an eighth less", 88, x.ofCompany(0, 2));
        checks.due("tired by it", 1, x.ofCompany(0, 3));
        checks.due("a quarter, and half of what is left", 19, x.ofCompany(1, 2));
        checks.due("on gate", 24, x.ofCompany(1, 1));
        checks.due("at rest", 0, x.ofCompany(1, 4));
        checks.due("losses of the besiegers", 12, x.ofSide(0, 9));
        checks.due("losses of the garrison", 31, x.ofSide(1, 9));
        checks.due("a fight won", 1, x.ofSide(0, 10));
        checks.due("none of the garrison", 0, x.ofSide(1, 10));
        checks.due("morale of who won", 64, x.ofSide(0, 3));
        checks.due("morale of who lost", 56, x.ofSide(1, 3));
        Siegelines y = facing(0);
        y.stores(0, 0, 99, 9, 98);
        y.stores(1, 0, 99, 9, 3);
        y.begin();
        y.order(0, 5, 12);
        y.pass(1);
        checks.due("100 at most", 100, y.ofSide(0, 3));
        checks.due("0 at least", 0, y.ofSide(1, 3));
    }

    private static void winWithRefuge() {
        Siegelines x = Fields.plain(5, 5);
        x.ground(13, 0, 0, 4, 0);
        x.ground(17, 0, 0, 4, 0);
        x.company(0, 11, 100);
        x.company(1, 12, 50);
        x.begin();
        x.order(0, 5, 12);
        x.pass(1);
        checks.due("to the first cover beside it", 13, x.ofCompany(1, 1));
        checks.due("a quarter alone", 38, x.ofCompany(1, 2));
        Siegelines y = Fields.plain(5, 5);
        y.ground(13, 0, 0, 5, 0);
        y.ground(7, 0, 0, 4, 0);
        y.company(1, 11, 100);
        y.company(0, 12, 50);
        y.company(0, 0, 50);
        y.begin();
        y.order(0, 5, 12);
        y.pass(1);
        checks.due("besiegers go to their trench", 13, y.ofCompany(1, 1));
        Siegelines z = Fields.plain(5, 5);
        z.ground(7, 0, 0, 5, 0);
        z.ground(17, 0, 0, 5, 0);
        z.camp(11, 24);
        z.company(0, 12, 50);
        z.company(0, 7, 1);
        z.company(1, 13, 200);
        z.company(1, 2, 200);
        z.begin();
        z.order(3, 5, 7);
        z.pass(1);
        checks.due("the trench was thrown in", 0, z.ofSquare(7, 2));
        z.order(2, 5, 12);
        z.pass(1);
        checks.due("camp is a refuge, too, and comes first", 11, z.ofCompany(0, 1));
    }

    private static void winOverMany() {
        Siegelines x = Fields.plain(5, 5);
        x.ground(7, 0, 0, 3, 0);
        x.company(1, 12, 20);
        x.company(0, 11, 200);
        x.company(1, 12, 30);
        x.company(1, 24, 9);
        x.company(1, 12, 3);
        x.begin();
        x.order(0, 2, 0);
        checks.due("all together, with a guard", 200 * 14 * 110 * 5 / 4 - 53 * 14 * 110 * 3 / 2, x.storm(1, 12));
        x.order(1, 5, 12);
        x.pass(1);
        checks.due("the first", 15, x.ofCompany(0, 2));
        checks.due("the second", 23, x.ofCompany(2, 2));
        checks.due("the third has 1 less at least", 2, x.ofCompany(4, 2));
        checks.due("all in the town", 21, x.ofCompany(0, 1) + x.ofCompany(2, 1) + x.ofCompany(4, 1));
        checks.due("guard no more", 0, x.ofCompany(0, 4));
        checks.due("losses", 13, x.ofSide(1, 9));
        checks.due("those elsewhere are whole", 9, x.ofCompany(3, 2));
        checks.due("one fight", 1, x.ofSide(0, 10));
    }

    private static void winOverOneMan() {
        Siegelines x = Fields.plain(5, 5);
        x.company(0, 11, 7);
        x.company(1, 12, 1);
        x.company(1, 24, 9);
        x.begin();
        x.order(1, 2, 0);
        x.order(0, 5, 12);
        x.pass(1);
        checks.due("0 of 7 is let for who wins", 7, x.ofCompany(0, 2));
        checks.due("one man is gone", 0, x.ofCompany(1, 2));
        checks.due("he stays where he was", 12, x.ofCompany(1, 1));
        checks.due("and as he was", 2, x.ofCompany(1, 4));
        checks.due("companies that are left", 1, x.ofSide(1, 6));
        checks.due("only the besiegers are seen", 0, x.row(2).indexOf("..o") < 0 ? 1 : 0);
    }

    /** A cover at 7 that besiegers stormed is no refuge from 12; a cover at 13 is, or none. */
    private static void refugeThatIsHeld() {
        for (int work = 0; work <= 4; work += 4) {
            Siegelines x = Fields.plain(5, 5);
            x.ground(7, 0, 0, 4, 0);
            x.ground(13, 0, 0, work, 0);
            x.company(0, 11, 200);
            x.company(0, 2, 1);
            x.company(1, 12, 40);
            x.company(1, 13, 9);
            x.begin();
            x.order(1, 5, 7);
            x.pass(1);
            checks.due("one man is in the cover", 7, x.ofCompany(1, 1));
            x.order(0, 5, 12);
            x.pass(1);
            checks.due("not there", work == 4 ? 13 : 24, x.ofCompany(2, 1));
            checks.due("men", work == 4 ? 30 : 15, x.ofCompany(2, 2));
        }
    }

    /** The cover at 11, out of which besiegers storm, is no refuge: they are still there. */
    private static void heldByAttacker() {
        Siegelines x = Fields.plain(5, 5);
        x.ground(11, 0, 0, 4, 0);
        x.company(0, 10, 200);
        x.company(1, 12, 40);
        x.begin();
        x.order(0, 5, 11);
        x.pass(1);
        x.order(0, 5, 12);
        x.pass(1);
        checks.due("the winner is there", 12, x.ofCompany(0, 1));
        checks.due("the loser is on gate", 24, x.ofCompany(1, 1));
        checks.due("with half of 30", 15, x.ofCompany(1, 2));
    }

    /** Without a refuge half of what is left goes, too: of 1 nobody, of 3 one. */
    private static void noHalfOfOne() {
        int[] men = {2, 3, 4, 5, 8};
        int[] left = {1, 1, 2, 2, 3};
        for (int i = 0; i < men.length; i++) {
            Siegelines x = Fields.plain(5, 5);
            x.company(0, 11, 200);
            x.company(1, 12, men[i]);
            x.begin();
            x.order(0, 5, 12);
            x.pass(1);
            checks.due("left of " + men[i] + " without a refuge", left[i], x.ofCompany(1, 2));
            checks.due("on gate", 24, x.ofCompany(1, 1));
        }
    }

    /** Who loses has a quarter less, 1 at least. */
    private static void quarters() {
        int[] men = {1, 2, 3, 4, 7, 8, 11, 12, 16};
        int[] left = {0, 1, 2, 3, 6, 6, 9, 9, 12};
        for (int i = 0; i < men.length; i++) {
            Siegelines x = Fields.plain(5, 5);
            x.ground(7, 0, 0, 4, 0);
            x.company(0, 11, 200);
            x.company(1, 12, men[i]);
            x.company(1, 24, 9);
            x.begin();
            x.order(0, 5, 12);
            x.pass(1);
            checks.due("left of " + men[i] + " that were stormed", left[i], x.ofCompany(1, 2));
            Siegelines y = Fields.plain(5, 5);
            y.company(0, 11, men[i]);
            y.company(0, 0, 9);
            y.company(1, 12, 200);
            y.begin();
            y.order(0, 5, 12);
            y.pass(1);
            checks.due("left of " + men[i] + " that stormed", left[i], y.ofCompany(0, 2));
        }
    }

    /** Who wins has an eighth less. */
    private static void eighths() {
        int[] men = {17, 23, 24, 31, 160};
        int[] left = {15, 21, 21, 28, 140};
        for (int i = 0; i < men.length; i++) {
            Siegelines x = Fields.plain(5, 5);
            x.company(0, 11, men[i]);
            x.company(1, 12, 2);
            x.company(1, 24, 9);
            x.begin();
            x.order(0, 5, 12);
            x.pass(1);
            checks.due("left of " + men[i] + " that stormed and won", left[i], x.ofCompany(0, 2));
            Siegelines y = Fields.plain(5, 5);
            y.company(0, 11, 2);
            y.company(0, 0, 9);
            y.company(1, 12, men[i]);
            y.begin();
            y.order(0, 5, 12);
            y.pass(1);
            checks.due("left of " + men[i] + " that were stormed and won", left[i], y.ofCompany(2, 2));
        }
    }

    private static void lose() {
        Siegelines x = facing(4);
        x.company(1, 12, 7);
        x.begin();
        x.order(1, 3, 0);
        x.order(0, 5, 12);
        x.pass(1);
        checks.due("it stays where it was", 11, x.ofCompany(0, 1));
        checks.due("at rest", 0, x.ofCompany(0, 4));
        checks.due("without a goal", -1, x.ofCompany(0, 5));
        checks.due("a quarter less", 75, x.ofCompany(0, 2));
        checks.due("an eighth less", 44, x.ofCompany(1, 2));
        checks.due("0 is let", 7, x.ofCompany(4, 2));
        checks.due("the winner stays", 12, x.ofCompany(1, 1));
        checks.due("and keeps its order", 3, x.ofCompany(1, 4));
        checks.due("losses of the besiegers", 25, x.ofSide(0, 9));
        checks.due("losses of the garrison", 6, x.ofSide(1, 9));
        checks.due("a fight won by the garrison", 1, x.ofSide(1, 10));
        checks.due("none by the besiegers", 0, x.ofSide(0, 10));
        checks.due("morale of who lost", 56, x.ofSide(0, 3));
        checks.due("morale of who won", 64, x.ofSide(1, 3));
    }

    private static void loseLastMan() {
        Siegelines x = Fields.plain(5, 5);
        x.company(0, 11, 1);
        x.company(1, 12, 7);
        x.company(0, 0, 9);
        x.begin();
        x.order(0, 5, 12);
        x.pass(1);
        checks.due("gone", 0, x.ofCompany(0, 2));
        checks.due("where it was", 11, x.ofCompany(0, 1));
        checks.due("at rest, too", 0, x.ofCompany(0, 4));
        checks.due("without a goal, too", -1, x.ofCompany(0, 5));
        x.pass(1);
        checks.due("it acts no more", 1, x.ofCompany(0, 3));
    }

    private static void even() {
        Siegelines y = Fields.plain(5, 5);
        y.company(0, 11, 70);
        y.company(1, 12, 65);
        y.company(1, 24, 1);
        y.begin();
        y.pass(5);
        y.order(0, 5, 12);
        checks.due("70 * 14 against 65 * 14", 7700, y.storm(0, 12));
        y.pass(1);
        checks.due("70 * 13 against 65 * 14: as much does not win", 1, y.ofSide(1, 10));
        checks.due("it stays", 11, y.ofCompany(0, 1));
    }

    private static void unopposed() {
        Siegelines x = Fields.plain(5, 5);
        x.ground(12, 0, 0, 4, 0);
        x.company(0, 11, 100);
        x.company(1, 24, 50);
        x.begin();
        x.order(0, 5, 12);
        x.pass(1);
        checks.due("there without a fight", 12, x.ofCompany(0, 1));
        checks.due("at rest", 0, x.ofCompany(0, 4));
        checks.due("no fight", 0, x.ofSide(0, 10) + x.ofSide(1, 10));
        checks.due("no losses", 100, x.ofCompany(0, 2));
        checks.due("morale stays", 60, x.ofSide(0, 3));
        checks.due("the cover stays", 4, x.ofSquare(12, 2));
    }

    private static void spiked() {
        Siegelines x = Fields.plain(5, 5);
        x.stores(0, 500, 500, 5, 60);
        x.ground(12, 0, 0, 4, 0);
        x.gun(1, 12, 1);
        x.gun(0, 6, 1);
        x.company(0, 11, 100);
        x.company(1, 24, 50);
        x.begin();
        x.order(0, 5, 12);
        x.pass(1);
        checks.due("a gun is spiked, without a fight", 2, x.ofGun(0, 5));
        checks.due("ready guns", 0, x.ofSide(1, 12));
        checks.due("own guns are not", 0, x.ofGun(1, 5));
        x.aim(1, 12);
        x.pass(4);
        checks.due("10 hits on a spiked gun", 10, x.ofGun(0, 4));
        checks.due("it stays spiked", 2, x.ofGun(0, 5));
        checks.refuses("nobody of its side is there", Checks.STATE, x, () -> x.right(0));
        Siegelines y = facing(0);
        y.gun(1, 12, 2);
        y.gun(0, 12, 2);
        y.gun(1, 13, 2);
        y.begin();
        y.order(0, 5, 12);
        y.pass(1);
        checks.due("spiked by who wins", 2, y.ofGun(0, 5));
        checks.due("not those of who wins", 0, y.ofGun(1, 5));
        checks.due("not those elsewhere", 0, y.ofGun(2, 5));
        Siegelines z = facing(4);
        z.gun(1, 12, 2);
        z.begin();
        z.order(0, 5, 12);
        z.pass(1);
        checks.due("not by who loses", 0, z.ofGun(0, 5));
    }

    private static void dismountedStays() {
        Siegelines x = Fields.plain(5, 5);
        x.stores(0, 500, 500, 5, 60);
        x.ground(12, 0, 0, 4, 0);
        x.gun(1, 12, 1);
        for (int i = 0; i < 3; i++) {
            x.gun(0, 10, 1);
        }
        x.company(0, 11, 100);
        x.company(1, 24, 50);
        x.begin();
        for (int gun = 1; gun <= 3; gun++) {
            x.aim(gun, 12);
        }
        x.pass(1);
        checks.due("dismounted", 1, x.ofGun(0, 5));
        x.order(0, 5, 12);
        x.pass(1);
        checks.due("the besiegers are there", 12, x.ofCompany(0, 1));
        checks.due("it is not spiked", 1, x.ofGun(0, 5));
    }

    private static void thrownIn() {
        Siegelines x = Fields.plain(5, 5);
        x.stores(0, 0, 99, 9, 60);
        x.ground(12, 1, 0, 5, 0);
        x.ground(7, 1, 0, 5, 0);
        x.company(1, 13, 200);
        x.company(0, 12, 20);
        x.company(0, 0, 20);
        x.begin();
        x.order(0, 5, 12);
        x.pass(1);
        checks.due("no work any more", 0, x.ofSquare(12, 2));
        checks.due("its height stays", 1, x.ofSquare(12, 0));
        checks.due("nobody's", -1, x.ofSquare(12, 7));
        checks.due("half of the gabions, rounded down, is gone", 5, x.ofSide(0, 2));
        checks.due("the besiegers are in the other trench", 7, x.ofCompany(1, 1));
        x.pass(2);
        x.order(1, 4, 1);
        x.pass(1);
        x.order(0, 5, 7);
        x.pass(1);
        checks.due("an empty trench, too", 0, x.ofSquare(7, 2));
        checks.due("half of 5 is 2", 3, x.ofSide(0, 2));
        Siegelines y = Fields.plain(5, 5);
        y.stores(0, 0, 99, 9, 60);
        y.ground(12, 0, 0, 5, 0);
        y.company(0, 11, 20);
        y.company(1, 24, 20);
        y.begin();
        y.order(0, 5, 12);
        y.pass(1);
        checks.due("not by the besiegers", 5, y.ofSquare(12, 2));
        checks.due("their gabions stay", 9, y.ofSide(0, 2));
    }

    private static void stormGate() {
        Siegelines x = Fields.plain(5, 5);
        x.town(101, 0, 10);
        x.company(0, 23, 200);
        x.company(1, 24, 5);
        x.company(1, 12, 5);
        x.begin();
        x.order(0, 5, 24);
        x.pass(9);
        checks.due("the siege is over", 2, x.ofSiege(1));
        checks.due("honours 0", 0, x.ofSiege(2));
        checks.due("half of the people", 50, x.ofSiege(5));
        checks.due("the clock stays in that hour", 0, x.ofSiege(0));
        checks.due("who has no refuge but gate stays there", 24, x.ofCompany(1, 1));
        checks.due("5 less 1 less 2", 2, x.ofCompany(1, 2));
        checks.due("both are there", 1, x.row(4).indexOf("....*") == 0 ? 1 : 0);
    }

    private static void loserAtHome() {
        Siegelines x = Fields.plain(5, 5);
        x.stores(0, 0, 99, 9, 60);
        x.company(1, 1, 200);
        x.company(0, 0, 40);
        x.begin();
        x.order(0, 5, 0);
        x.pass(1);
        checks.due("camp is stormed", 0, x.ofCompany(0, 1));
        checks.due("its losers stay there", 0, x.ofCompany(1, 1));
        checks.due("40 less 10 less 15", 15, x.ofCompany(1, 2));
        checks.due("the siege goes on", 1, x.ofSiege(1));
        checks.due("a sign of both", "*....", x.row(0));
        checks.due("camp is no trench to throw in", 9, x.ofSide(0, 2));
    }
}

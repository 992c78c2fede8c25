/** Part 5, promises 15 to 17 and 27: mines. */
final class MinesTest {
    private static final Checks checks = new Checks("MinesTest");

    public static void main(String[] args) {
        beginMines();
        beginWrong();
        advance();
        strangersOnMouth();
        directions();
        stopped();
        heardByCompanies();
        heardByMines();
        heardByFew();
        charge();
        chargeWrong();
        blowCamouflet();
        blowReach();
        blowFromHeight();
        blowCrater();
        blowWalls();
        blowMen();
        crush();
        crushByBesieged();
        crushNearby();
        camoufletFromHeight();
        blowKeepsToil();
        blowAtSpiked();
        blowEdges();
        blowEnds();
        blowWrong();
        checks.end();
    }

    /** A company of each side: in a trench at 20 and in a cover at 24 of a map that is 9 wide and 5 high. */
    private static Siegelines field(int work) {
        Siegelines x = Fields.plain(9, 5);
        x.ground(20, 0, 0, 5, 0);
        x.ground(24, 0, 0, work, 50);
        x.stores(0, 200, 999, 9, 60);
        x.stores(1, 200, 999, 9, 60);
        x.company(0, 20, 20);
        x.company(1, 24, 20);
        x.company(0, 0, 20);
        x.company(1, 44, 20);
        return x;
    }

    private static void beginMines() {
        int[] works = {1, 3, 4};
        for (int work : works) {
            Siegelines x = field(work);
            x.begin();
            checks.due("the first", 0, x.mine(0, 1));
            checks.due("the second, of the garrison", 1, x.mine(1, 3));
            int[] want = {1, 24, 24, 3, 0, 0, 0, 1, 0};
            for (int what = 0; what <= 8; what++) {
                checks.due("ofMine of " + what, want[what], x.ofMine(1, what));
            }
            checks.due("mines", 2, x.ofSiege(12));
            for (int number = 2; number < 6; number++) {
                checks.due("more", number, x.mine(number % 2, 0));
            }
            checks.refuses("a 7th", Checks.STATE, x, () -> x.mine(0, 0));
            checks.refuses("a wrong 7th", Checks.ARGUMENT, x, () -> x.mine(0, 4));
        }
    }

    private static void beginWrong() {
        Siegelines x = field(3);
        x.begin();
        checks.refuses("no such company", Checks.INDEX, x, () -> x.mine(4, 9));
        checks.refuses("company -1", Checks.INDEX, x, () -> x.mine(-1, 0));
        checks.refuses("direction -1", Checks.ARGUMENT, x, () -> x.mine(0, -1));
        checks.refuses("direction 4", Checks.ARGUMENT, x, () -> x.mine(0, 4));
        checks.refuses("on camp", Checks.STATE, x, () -> x.mine(2, 0));
        checks.refuses("on gate without work", Checks.STATE, x, () -> x.mine(3, 0));
        int[] others = {2, 6, 7};
        for (int work : others) {
            Siegelines y = Fields.plain(9, 5);
            y.ground(20, 0, 0, work, 5);
            y.company(0, 20, 20);
            y.company(1, 20, 20);
            y.begin();
            checks.refuses("besiegers on work " + work, Checks.STATE, y, () -> y.mine(0, 0));
            checks.refuses("garrison on work " + work, Checks.STATE, y, () -> y.mine(1, 0));
        }
        Siegelines z = Fields.plain(9, 5);
        z.ground(20, 0, 0, 3, 5);
        z.company(0, 19, 20);
        z.company(1, 44, 20);
        z.begin();
        z.order(0, 5, 20);
        z.pass(1);
        checks.due("besiegers in the town", 20, z.ofCompany(0, 1));
        checks.refuses("but no mine of theirs there", Checks.STATE, z, () -> z.mine(0, 0));
        Siegelines gone = Fields.plain(9, 5);
        gone.ground(20, 0, 0, 5, 0);
        gone.company(0, 20, 1);
        gone.company(0, 0, 1);
        gone.company(1, 21, 100);
        gone.begin();
        gone.order(0, 5, 21);
        gone.pass(1);
        checks.refuses("a company that is gone", Checks.STATE, gone, () -> gone.mine(0, 0));
    }

    private static void advance() {
        Siegelines x = field(4);
        x.ground(22, 0, 1, 0, 0);
        x.begin();
        x.mine(0, 1);
        for (int toil = 1; toil <= 3; toil++) {
            x.pass(1);
            checks.due("toil to earth", toil, x.ofMine(0, 5));
            checks.due("the head stays", 20, x.ofMine(0, 2));
        }
        x.pass(1);
        checks.due("on earth with 4", 21, x.ofMine(0, 2));
        checks.due("toil 0", 0, x.ofMine(0, 5));
        checks.due("two squares", 2, x.ofMine(0, 7));
        checks.due("the mouth stays", 20, x.ofMine(0, 1));
        x.pass(5);
        checks.due("toil to clay", 5, x.ofMine(0, 5));
        x.pass(1);
        checks.due("on clay with 6", 22, x.ofMine(0, 2));
        checks.due("three squares", 3, x.ofMine(0, 7));
        x.order(0, 4, 19);
        x.pass(1);
        checks.due("nobody is on the mouth", 0, x.ofMine(0, 5));
        x.pass(5);
        checks.due("still nobody", 0, x.ofMine(0, 5));
        x.order(0, 4, 20);
        x.pass(1);
        checks.due("it is back at its mouth, ahead of the mines", 1, x.ofMine(0, 5));
        x.order(1, 4, 15);
        x.pass(1);
        checks.due("any order will do", 2, x.ofMine(0, 5));
    }

    /** The garrison throws in the trench that is the mouth, and stands there: the mine does not go on. */
    private static void strangersOnMouth() {
        Siegelines x = field(4);
        x.company(1, 29, 200);
        x.begin();
        x.mine(0, 1);
        x.order(4, 5, 20);
        x.pass(1);
        checks.due("the garrison is on the mouth", 20, x.ofCompany(4, 1));
        x.pass(9);
        checks.due("no toil", 0, x.ofMine(0, 5));
        checks.due("it is dug all the same", 0, x.ofMine(0, 6));
        Siegelines y = field(4);
        y.begin();
        y.mine(0, 1);
        y.pass(4);
        y.order(0, 4, 21);
        y.pass(1);
        checks.due("a company on the head is not one on the mouth", 0, y.ofMine(0, 5));
    }

    private static void directions() {
        int[] heads = {13, 23, 31, 21};
        for (int direction = 0; direction < 4; direction++) {
            Siegelines x = Fields.plain(9, 5);
            x.ground(22, 0, 0, 5, 0);
            x.company(0, 22, 1);
            x.company(1, 44, 1);
            x.begin();
            x.mine(0, direction);
            x.pass(4);
            checks.due("direction " + direction, heads[direction], x.ofMine(0, 2));
            checks.due("direction as told", direction, x.ofMine(0, 3));
            checks.due("it is dug", 0, x.ofMine(0, 6));
        }
    }

    private static void stopped() {
        int[] ends = {0, 8, 36, 44};
        int[][] off = {{0, 3}, {0, 1}, {2, 3}, {2, 1}};
        for (int i = 0; i < 4; i++) {
            for (int direction : off[i]) {
                Siegelines x = Fields.plain(9, 5);
                x.camp(20, 22);
                x.ground(ends[i], 0, 0, 5, 0);
                x.company(0, ends[i], 1);
                x.company(1, 22, 1);
                x.begin();
                x.mine(0, direction);
                checks.due("dug at first", 0, x.ofMine(0, 6));
                x.pass(1);
                checks.due("stopped at the edge of the map", 1, x.ofMine(0, 6));
                checks.due("without toil", 0, x.ofMine(0, 5));
                checks.due("where it was", ends[i], x.ofMine(0, 2));
            }
        }
        for (int soil = 2; soil <= 3; soil++) {
            Siegelines x = field(4);
            x.ground(21, 0, soil, 0, 0);
            x.begin();
            x.mine(0, 1);
            x.pass(1);
            checks.due("stopped by soil " + soil, 1, x.ofMine(0, 6));
            x.pass(9);
            checks.due("it goes no further", 20, x.ofMine(0, 2));
        }
        Siegelines x = Fields.plain(12, 5);
        x.ground(1, 0, 2, 5, 0);
        x.company(0, 1, 1);
        x.company(1, 59, 1);
        x.begin();
        x.mine(0, 1);
        x.pass(20);
        checks.due("six squares, the soil of the mouth does not matter", 6, x.ofMine(0, 7));
        checks.due("its head", 6, x.ofMine(0, 2));
        checks.due("still dug", 0, x.ofMine(0, 6));
        x.pass(1);
        checks.due("then it is stopped", 1, x.ofMine(0, 6));
        checks.due("with six", 6, x.ofMine(0, 7));
        checks.due("without toil", 0, x.ofMine(0, 5));
    }

    private static void heardByCompanies() {
        Siegelines x = field(4);
        x.begin();
        x.mine(0, 1);
        x.order(1, 2, 0);
        x.pass(3);
        checks.due("one square is not heard", 0, x.ofMine(0, 8));
        x.pass(1);
        checks.due("its head is 3 far", 0, x.ofMine(0, 8));
        x.pass(3);
        x.order(1, 0, 0);
        x.pass(1);
        checks.due("2 far, but at rest", 0, x.ofMine(0, 8));
        int[] heard = {0, 0, 1, 1, 0, 1, 1};
        for (int order = 0; order <= 6; order++) {
            if (order == 1) {
                continue;
            }
            x.order(1, order, 24);
            checks.due("heard at order " + order, heard[order], x.ofMine(0, 8));
        }
        x.order(1, 0, 0);
        x.order(0, 2, 0);
        checks.due("own companies do not count", 0, x.ofMine(0, 8));
        x.order(1, 5, 44);
        x.pass(12);
        checks.due("tired or not", 1, x.ofMine(0, 8));
        Siegelines y = Fields.plain(9, 5);
        y.ground(43, 0, 0, 3, 0);
        y.company(1, 43, 9);
        y.company(0, 41, 9);
        y.begin();
        y.mine(0, 3);
        y.order(1, 1, 32);
        y.pass(4);
        checks.due("besiegers that dig hear, too", 1, y.ofMine(0, 8));
    }

    private static void heardByMines() {
        Siegelines x = Fields.plain(9, 5);
        x.ground(18, 0, 0, 5, 0);
        x.ground(22, 0, 0, 4, 0);
        x.ground(24, 0, 0, 4, 0);
        x.stores(1, 99, 99, 9, 60);
        x.company(0, 18, 9);
        x.company(1, 22, 9);
        x.company(1, 24, 9);
        x.company(1, 44, 9);
        x.begin();
        x.mine(0, 1);
        x.mine(2, 1);
        x.pass(4);
        checks.due("a head 6 far does not hear", 0, x.ofMine(0, 8));
        x.mine(1, 0);
        checks.due("a head 3 far does not hear", 0, x.ofMine(0, 8));
        x.pass(4);
        checks.due("its head is 20", 20, x.ofMine(0, 2));
        checks.due("the other's 13", 13, x.ofMine(2, 2));
        checks.due("2 far it hears", 1, x.ofMine(0, 8));
        checks.due("and is heard", 1, x.ofMine(2, 8));
        x.pass(8);
        checks.due("the one upwards is stopped", 1, x.ofMine(2, 6));
        checks.due("a stopped one is not heard", 0, x.ofMine(2, 8));
        checks.due("but hears", 1, x.ofMine(0, 8));
        x.charge(2, 1);
        x.blow(2);
        checks.due("one that is blown does not hear", 0, x.ofMine(0, 8));
        checks.refuses("ofMine of none", Checks.INDEX, x, () -> x.ofMine(3, 9));
        checks.refuses("ofMine of -1", Checks.INDEX, x, () -> x.ofMine(-1, 0));
        checks.refuses("ofMine of 9", Checks.ARGUMENT, x, () -> x.ofMine(0, 9));
        checks.refuses("ofMine of what -1", Checks.ARGUMENT, x, () -> x.ofMine(0, -1));
    }

    /** A mine of one square is not heard, also by one beside it; one man hears, but not when he is gone. */
    private static void heardByFew() {
        Siegelines x = Fields.plain(9, 5);
        x.ground(18, 0, 0, 5, 0);
        x.company(0, 18, 200);
        x.company(1, 19, 9);
        x.company(1, 12, 1);
        x.company(1, 44, 9);
        x.begin();
        x.mine(0, 1);
        x.order(1, 2, 0);
        x.pass(1);
        checks.due("one square", 0, x.ofMine(0, 8));
        x.order(1, 0, 0);
        x.pass(7);
        checks.due("all are at rest", 0, x.ofMine(0, 8));
        x.order(2, 2, 0);
        checks.due("the head", 20, x.ofMine(0, 2));
        checks.due("one man hears it", 1, x.ofMine(0, 8));
        Siegelines y = Fields.plain(9, 5);
        y.stores(0, 99, 999, 9, 60);
        y.ground(18, 0, 0, 5, 0);
        y.gun(0, 9, 1);
        y.company(0, 18, 200);
        y.company(1, 12, 1);
        y.company(1, 44, 9);
        y.begin();
        y.mine(0, 1);
        y.pass(8);
        y.order(1, 2, 0);
        checks.due("heard", 1, y.ofMine(0, 8));
        y.aim(0, 12);
        y.pass(1);
        checks.due("he is gone, with his order", 2, y.ofCompany(1, 2) + y.ofCompany(1, 4));
        checks.due("not heard any more", 0, y.ofMine(0, 8));
        checks.due("it is dug on", 0, y.ofMine(0, 6));
    }

    private static void charge() {
        Siegelines x = field(4);
        x.begin();
        x.mine(0, 1);
        x.mine(1, 3);
        checks.due("its charge", 60, x.charge(0, 60));
        checks.due("more", 61, x.charge(0, 1));
        checks.due("powder of its side", 139, x.ofSide(0, 0));
        checks.due("not of the other", 200, x.ofSide(1, 0));
        checks.due("it is not spent yet", 0, x.ofSide(0, 8));
        checks.due("the garrison's", 5, x.charge(1, 5));
        checks.due("its powder", 195, x.ofSide(1, 0));
        checks.holds("sound with charges", x.isSound());
        x.mine(1, 0);
        x.charge(2, 3);
        checks.holds("sound with two of one side", x.isSound());
        x.blow(1);
        x.blow(2);
        checks.due("both are spent", 8, x.ofSide(1, 8));
        checks.due("powder that is left", 192, x.ofSide(1, 0));
        checks.holds("sound when they are blown", x.isSound());
        x.charge(0, 60);
        x.charge(0, 60);
        checks.refuses("more than there is", Checks.STATE, x, () -> x.charge(0, 20));
        checks.due("all that there is", 200, x.charge(0, 19));
        checks.due("nothing is left", 0, x.ofSide(0, 0));
    }

    private static void chargeWrong() {
        Siegelines x = field(4);
        x.begin();
        x.mine(0, 0);
        checks.refuses("no such mine", Checks.INDEX, x, () -> x.charge(1, 0));
        checks.refuses("mine -1", Checks.INDEX, x, () -> x.charge(-1, 1));
        int[] wrong = {0, -1, 61, Integer.MAX_VALUE, Integer.MIN_VALUE};
        for (int barrels : wrong) {
            checks.refuses("charge of " + barrels, Checks.ARGUMENT, x, () -> x.charge(0, barrels));
        }
        x.pass(12);
        checks.due("stopped", 1, x.ofMine(0, 6));
        checks.due("a stopped one takes a charge", 3, x.charge(0, 3));
        x.blow(0);
        checks.refuses("not one that is blown", Checks.STATE, x, () -> x.charge(0, 1));
        checks.refuses("a wrong charge of one that is blown", Checks.ARGUMENT, x, () -> x.charge(0, 61));
    }

    private static void blowCamouflet() {
        Siegelines x = field(4);
        x.begin();
        x.mine(1, 3);
        x.charge(0, 4);
        checks.due("nobody is lost", 0, x.blow(0));
        checks.due("blown", 2, x.ofMine(0, 6));
        checks.due("its charge is told as before", 4, x.ofMine(0, 4));
        checks.due("it is spent", 4, x.ofSide(1, 8));
        checks.due("no crater", 4, x.ofSquare(24, 2));
        checks.due("no men", 20, x.ofCompany(1, 2));
        checks.holds("sound", x.isSound());
        x.pass(9);
        checks.due("a blown one does not go on", 1, x.ofMine(0, 7));
        Siegelines y = field(4);
        y.begin();
        y.mine(1, 3);
        y.charge(0, 5);
        checks.due("by 5 a third of 20", 6, y.blow(0));
        checks.due("a crater", 7, y.ofSquare(24, 2));
    }

    /** The men that are lost by a charge in a trench at 20, with companies of 30 on its line at 20 to 23. */
    private static int lostBy(int charge, int height) {
        Siegelines x = Fields.plain(9, 5);
        x.ground(20, height, 0, 5, 0);
        x.stores(0, 200, 999, 9, 60);
        for (int square = 20; square <= 23; square++) {
            x.company(square % 2, square, 30 + square % 2 - (square == 21 ? 1 : 0));
            if (square == 20) {
                x.company(0, 8, 9);
                x.company(1, 44, 9);
            }
        }
        x.begin();
        x.mine(0, 0);
        x.charge(0, Math.min(charge, 60));
        if (charge > 60) {
            x.charge(0, charge - 60);
        }
        int lost = x.blow(0);
        checks.due("losses of both by " + charge, lost, x.ofSide(0, 9) + x.ofSide(1, 9));
        return lost;
    }

    private static void blowReach() {
        int[] charges = {1, 4, 5, 7, 8, 23, 24, 60, 120};
        int[] low = {0, 0, 10, 10, 20, 20, 30, 30, 30};
        int[] high = {0, 0, 10, 10, 10, 10, 20, 20, 20};
        for (int i = 0; i < charges.length; i++) {
            checks.due("lost on height 2 by " + charges[i], low[i], lostBy(charges[i], 2));
            checks.due("lost on height 3 by " + charges[i], high[i], lostBy(charges[i], 3));
        }
    }

    private static void blowFromHeight() {
        Siegelines x = Fields.plain(9, 5);
        x.ground(20, 9, 0, 5, 0);
        x.stores(0, 200, 999, 9, 60);
        x.company(0, 20, 30);
        x.company(1, 22, 30);
        x.begin();
        x.mine(0, 1);
        x.pass(4);
        x.charge(0, 8);
        checks.due("the height of the head counts, not of the mouth", 20, x.blow(0));
        checks.due("a crater on the head", 7, x.ofSquare(21, 2));
        checks.due("the mouth stays", 5, x.ofSquare(20, 2));
    }

    private static void blowCrater() {
        int[] after = {7, 6, 2, 3, 7, 7, 6, 7};
        for (int work = 0; work <= 7; work++) {
            Siegelines x = Fields.plain(9, 5);
            x.ground(20, 0, 0, 5, 0);
            x.ground(21, 2, 0, work, 5);
            x.stores(0, 200, 999, 9, 60);
            x.company(0, 20, 9);
            x.company(1, 44, 9);
            x.begin();
            x.mine(0, 1);
            x.pass(4);
            x.charge(0, 9);
            x.blow(0);
            checks.due("work " + work + " on the head", after[work], x.ofSquare(21, 2));
            boolean isLower = after[work] == 7 || work == 1;
            checks.due("its height", isLower ? 1 : 2, x.ofSquare(21, 0));
            checks.due("what is beside the head stays", 5, x.ofSquare(20, 2));
            checks.due("and what has no work", 0, x.ofSquare(22, 2) + x.ofSquare(12, 2));
        }
        Siegelines firm = Fields.plain(9, 5);
        firm.ground(20, 4, 0, 1, 31);
        firm.stores(1, 200, 999, 9, 60);
        firm.company(0, 0, 9);
        firm.company(1, 20, 9);
        firm.begin();
        firm.mine(1, 1);
        firm.charge(0, 9);
        firm.blow(0);
        checks.due("a wall on the head that does not fall", 1, firm.ofSquare(20, 2));
        checks.due("how firm", 1, firm.ofSquare(20, 3));
        checks.due("with its height", 4, firm.ofSquare(20, 0));
        Siegelines camp = Fields.plain(9, 5);
        camp.ground(1, 0, 0, 5, 0);
        camp.stores(0, 200, 999, 9, 60);
        camp.camp(0, 2);
        camp.company(0, 1, 9);
        camp.company(1, 2, 9);
        camp.begin();
        camp.mine(0, 3);
        camp.mine(0, 1);
        camp.mine(0, 0);
        camp.pass(4);
        for (int mine = 0; mine < 3; mine++) {
            camp.charge(mine, 6);
            camp.blow(mine);
        }
        checks.due("no crater on camp or gate", 0, camp.ofSquare(0, 2) + camp.ofSquare(2, 2));
        checks.due("a crater of height 0", 7, camp.ofSquare(1, 2));
        checks.due("0 at least", 0, camp.ofSquare(1, 0));
        checks.due("a crater keeps no side", -1, camp.ofSquare(1, 7));
    }

    private static void blowWalls() {
        Siegelines x = Fields.plain(9, 5);
        x.ground(20, 0, 0, 5, 0);
        x.ground(21, 4, 0, 1, 31);
        x.ground(19, 4, 0, 1, 30);
        x.ground(12, 4, 0, 1, 29);
        x.ground(22, 4, 0, 1, 5);
        x.stores(0, 200, 999, 9, 60);
        x.company(0, 20, 9);
        x.company(1, 44, 9);
        x.begin();
        x.mine(0, 0);
        x.charge(0, 20);
        x.blow(0);
        checks.due("30 less", 1, x.ofSquare(21, 3));
        checks.due("30 falls", 6, x.ofSquare(19, 2));
        checks.due("29 falls", 6, x.ofSquare(12, 2));
        checks.due("its height", 3, x.ofSquare(12, 0));
        checks.due("not what is farther", 5, x.ofSquare(22, 3));
        checks.due("falls", 2, x.ofSiege(4));
        checks.due("morale 8 less for each", 44, x.ofSide(1, 3));
        checks.due("powder that was spent", 20, x.ofSide(0, 8));
    }

    private static void blowMen() {
        Siegelines x = Fields.plain(9, 5);
        x.ground(20, 0, 0, 5, 0);
        x.stores(0, 200, 999, 9, 60);
        x.gun(0, 20, 1);
        x.gun(1, 21, 1);
        x.gun(1, 22, 1);
        x.company(0, 20, 11);
        x.company(0, 20, 2);
        x.company(1, 29, 100);
        x.company(1, 44, 100);
        x.company(0, 0, 100);
        x.begin();
        x.mine(0, 0);
        x.charge(0, 8);
        checks.due("a third of 11, 2 and 100", 36, x.blow(0));
        checks.due("11", 8, x.ofCompany(0, 2));
        checks.due("2", 2, x.ofCompany(1, 2));
        checks.due("100", 67, x.ofCompany(2, 2));
        checks.due("losses of the besiegers", 3, x.ofSide(0, 9));
        checks.due("losses of the garrison", 33, x.ofSide(1, 9));
        checks.due("a gun on the head", 1, x.ofGun(0, 5));
        checks.due("a gun beside it", 1, x.ofGun(1, 5));
        checks.due("without hits", 0, x.ofGun(1, 4));
        checks.due("a gun that is farther", 0, x.ofGun(2, 5));
        checks.due("morale stays", 60, x.ofSide(0, 3));
    }

    /** Mines of both that go towards each other from 24 and 29, and one from 24 upwards. */
    private static Siegelines countermines() {
        Siegelines x = Fields.plain(12, 5);
        x.ground(24, 0, 0, 5, 0);
        x.ground(29, 0, 0, 4, 0);
        x.stores(0, 200, 999, 9, 60);
        x.stores(1, 200, 999, 9, 60);
        x.company(0, 24, 9);
        x.company(1, 29, 9);
        x.company(0, 0, 9);
        x.company(1, 59, 9);
        x.begin();
        x.mine(0, 1);
        x.mine(1, 3);
        x.mine(0, 0);
        return x;
    }

    private static void crush() {
        Siegelines x = countermines();
        x.pass(8);
        checks.due("the head of one", 26, x.ofMine(0, 2));
        checks.due("the head of the other", 27, x.ofMine(1, 2));
        x.charge(0, 7);
        x.charge(1, 1);
        x.charge(2, 9);
        x.blow(1);
        checks.due("a camouflet crushes what is 1 far", 3, x.ofMine(0, 6));
        checks.due("not what is farther", 0, x.ofMine(2, 6));
        checks.due("its charge is told as before", 7, x.ofMine(0, 4));
        checks.due("and is spent", 7, x.ofSide(0, 8));
        checks.due("morale of the besiegers is 3 less", 57, x.ofSide(0, 3));
        checks.due("morale of the garrison stays", 60, x.ofSide(1, 3));
        checks.holds("sound", x.isSound());
        checks.refuses("a crushed one is not blown", Checks.STATE, x, () -> x.blow(0));
        checks.refuses("nor charged", Checks.STATE, x, () -> x.charge(0, 1));
        x.pass(4);
        checks.due("nor goes on", 3, x.ofMine(0, 7));
        checks.due("nor is heard", 0, x.ofMine(0, 8));
        Siegelines y = countermines();
        y.pass(8);
        y.charge(1, 7);
        y.blow(1);
        checks.due("with reach 0 only what is there", 0, y.ofMine(0, 6));
        Siegelines z = countermines();
        z.pass(8);
        z.charge(1, 24);
        z.blow(1);
        checks.due("with reach 2", 3, z.ofMine(0, 6));
        checks.due("not 3 far", 0, z.ofMine(2, 6));
        Siegelines w = countermines();
        w.pass(4);
        w.charge(1, 60);
        w.blow(1);
        checks.due("not a head 3 far", 0, w.ofMine(0, 6));
    }

    private static void crushByBesieged() {
        Siegelines x = countermines();
        x.pass(12);
        checks.due("they went through each other", 27, x.ofMine(0, 2));
        checks.due("the other's head", 26, x.ofMine(1, 2));
        x.charge(0, 5);
        x.charge(1, 2);
        x.blow(0);
        checks.due("any square counts, with reach 0", 3, x.ofMine(1, 6));
        checks.due("no own one", 1, x.ofMine(2, 6));
        checks.due("powder of the garrison", 2, x.ofSide(1, 8));
        checks.due("no morale for that", 60, x.ofSide(1, 3));
        checks.due("nor of the besiegers", 60, x.ofSide(0, 3));
    }

    /** A mine of the garrison at 22, one of the besiegers so many squares beside it, and two more of the garrison there. */
    private static Siegelines neighbours(int apart) {
        Siegelines x = Fields.plain(9, 5);
        x.ground(22, 0, 0, 4, 0);
        x.ground(22 - apart, 0, 0, 5, 0);
        x.stores(0, 200, 999, 9, 60);
        x.stores(1, 200, 999, 9, 60);
        x.company(1, 22, 9);
        x.company(0, 22 - apart, 9);
        x.begin();
        x.mine(0, 0);
        x.mine(1, 0);
        x.mine(0, 1);
        x.mine(0, 2);
        return x;
    }

    private static void crushNearby() {
        int[] charges = {1, 4, 5, 7, 8, 23, 24, 60};
        int[] reach = {1, 1, 0, 0, 1, 1, 2, 2};
        for (int i = 0; i < charges.length; i++) {
            for (int apart = 1; apart <= 3; apart++) {
                Siegelines x = neighbours(apart);
                x.charge(0, charges[i]);
                x.blow(0);
                String name = "a mine " + apart + " far, by " + charges[i];
                checks.due(name, apart <= reach[i] ? 3 : 0, x.ofMine(1, 6));
                checks.due("own ones stay", 0, x.ofMine(2, 6) + x.ofMine(3, 6));
                checks.due("morale", apart <= reach[i] ? 57 : 60, x.ofSide(0, 3));
            }
        }
        Siegelines two = neighbours(1);
        two.mine(1, 2);
        two.charge(1, 7);
        two.charge(4, 6);
        two.charge(0, 8);
        two.blow(0);
        checks.due("both are crushed", 6, two.ofMine(1, 6) + two.ofMine(4, 6));
        checks.due("both charges are spent", 13, two.ofSide(0, 8));
        checks.due("powder that is left", 187, two.ofSide(0, 0));
        checks.due("3 for each", 54, two.ofSide(0, 3));
        checks.holds("sound", two.isSound());
    }

    private static void camoufletFromHeight() {
        Siegelines x = Fields.plain(9, 5);
        x.ground(22, 5, 0, 4, 0);
        x.ground(21, 5, 0, 5, 0);
        x.stores(1, 200, 999, 9, 60);
        x.company(1, 22, 9);
        x.company(0, 21, 9);
        x.begin();
        x.mine(0, 0);
        x.mine(1, 0);
        x.charge(0, 4);
        x.blow(0);
        checks.due("a camouflet reaches 1 from a height, too", 3, x.ofMine(1, 6));
    }

    private static void blowKeepsToil() {
        Siegelines x = Fields.plain(9, 5);
        x.ground(20, 0, 0, 5, 0);
        x.stores(0, 200, 999, 9, 60);
        x.company(0, 20, 100);
        x.company(1, 44, 9);
        x.begin();
        x.mine(0, 1);
        x.order(0, 1, 21);
        x.pass(1);
        x.order(0, 0, 0);
        x.pass(3);
        x.charge(0, 9);
        x.blow(0);
        checks.due("a crater", 7, x.ofSquare(21, 2));
        checks.due("toil of the square stays", 10, x.ofSquare(21, 4));
        x.order(0, 1, 21);
        x.pass(2);
        checks.due("the crater is dug to a trench", 5, x.ofSquare(21, 2));
    }

    private static void blowAtSpiked() {
        Siegelines x = Fields.plain(9, 5);
        x.ground(20, 0, 0, 4, 0);
        x.stores(1, 200, 999, 9, 60);
        x.gun(1, 20, 1);
        x.company(0, 19, 100);
        x.company(1, 20, 9);
        x.company(1, 21, 200);
        x.company(1, 44, 9);
        x.begin();
        x.mine(1, 0);
        x.charge(0, 8);
        x.order(0, 5, 20);
        x.pass(1);
        checks.due("spiked", 2, x.ofGun(0, 5));
        x.blow(0);
        checks.due("it stays spiked", 2, x.ofGun(0, 5));
        checks.due("its hits stay", 0, x.ofGun(0, 4));
    }

    private static void blowEdges() {
        Siegelines x = Fields.plain(9, 5);
        x.ground(1, 1, 0, 5, 0);
        x.stores(0, 200, 999, 9, 60);
        x.company(0, 1, 9);
        x.company(0, 0, 30);
        x.company(1, 44, 9);
        x.begin();
        x.mine(0, 2);
        x.charge(0, 8);
        checks.due("a third of 9 and of 30, at 0", 13, x.blow(0));
        checks.due("those at 0", 20, x.ofCompany(1, 2));
        checks.due("height 1 less is 0", 0, x.ofSquare(1, 0));
        Siegelines y = Fields.plain(9, 5);
        y.ground(43, 5, 0, 3, 0);
        y.stores(1, 200, 999, 9, 60);
        y.company(0, 0, 9);
        y.company(1, 43, 9);
        y.company(1, 44, 30);
        y.begin();
        y.mine(1, 0);
        y.charge(0, 24);
        checks.due("also at the last square", 13, y.blow(0));
        checks.due("a town stays", 3, y.ofSquare(43, 2));
        checks.due("with its height", 5, y.ofSquare(43, 0));
    }

    private static void blowEnds() {
        Siegelines x = Fields.plain(9, 5);
        x.ground(20, 0, 0, 5, 0);
        x.ground(28, 0, 0, 4, 0);
        x.stores(0, 200, 999, 9, 3);
        x.stores(1, 200, 999, 9, 60);
        x.company(0, 20, 9);
        x.company(1, 28, 9);
        x.begin();
        x.mine(0, 2);
        x.mine(1, 0);
        x.mine(1, 2);
        x.charge(1, 4);
        x.charge(2, 4);
        x.blow(1);
        checks.due("mines, also blown and crushed ones", 3, x.ofSiege(12));
        checks.due("morale of the besiegers is 0", 0, x.ofSide(0, 3));
        checks.due("the siege is over by a mine", 2, x.ofSiege(1));
        checks.due("lifted", -1, x.ofSiege(2));
        checks.refuses("no mine any more", Checks.STATE, x, () -> x.mine(0, 0));
        checks.refuses("no charge any more", Checks.STATE, x, () -> x.charge(2, 1));
        checks.refuses("none is blown any more", Checks.STATE, x, () -> x.blow(2));
    }

    private static void blowWrong() {
        Siegelines x = field(4);
        x.begin();
        x.mine(0, 1);
        checks.refuses("no such mine", Checks.INDEX, x, () -> x.blow(1));
        checks.refuses("mine -1", Checks.INDEX, x, () -> x.blow(-1));
        checks.refuses("no charge", Checks.STATE, x, () -> x.blow(0));
        x.charge(0, 1);
        x.blow(0);
        checks.refuses("blown", Checks.STATE, x, () -> x.blow(0));
    }
}

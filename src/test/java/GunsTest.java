/** Parts 2 and 3, promises 22 to 25, 30 and 34: sight, and what guns do. */
final class GunsTest {
    private static final Checks checks = new Checks("GunsTest");

    public static void main(String[] args) {
        tops();
        farthestSight();
        hiddenSight();
        linesOfSight();
        row();
        wallUnderFire();
        wallThatFalls();
        lossesByWork();
        raked();
        rakedInLine();
        underFire();
        garrisonAtTown();
        ownCompanies();
        mortar();
        scarcePowder();
        gunsNotReady();
        gunsAtGuns();
        targets();
        evenTargets();
        targetsOfMortar();
        wrong();
        checks.end();
    }

    private static void tops() {
        Siegelines x = Fields.plain(5, 5);
        int[] more = {0, 6, -4, 4, 2, 0, 2, -2};
        for (int work = 0; work <= 7; work++) {
            x.ground(12, 3, 0, work, 9);
            checks.due("top of work " + work, 6 + more[work], x.ofSquare(12, 5));
            checks.due("body of work " + work, 6 + more[work] + (work == 5 ? -2 : 1), x.ofSquare(12, 6));
        }
        x.ground(12, 0, 0, 2, 0);
        checks.due("top below 0", -4, x.ofSquare(12, 5));
        x.ground(0, 3, 0, 0, 0);
        x.ground(24, 4, 0, 3, 0);
        checks.due("top of the first square", 6, x.ofSquare(0, 5));
        checks.due("top of the last one", 12, x.ofSquare(24, 5));
        x.company(0, 12, 5);
        x.company(0, 12, 6);
        x.company(1, 12, 7);
        checks.due("men of the besiegers there", 11, x.ofSquare(12, 8));
        checks.due("men of the garrison there", 7, x.ofSquare(12, 9));
        checks.due("men of the besiegers elsewhere", 0, x.ofSquare(13, 8));
    }

    private static void farthestSight() {
        Siegelines x = Fields.begun(12, 12);
        for (int hour = 0; hour < 24; hour++) {
            boolean isNight = hour >= 20 || hour <= 4;
            checks.holds("4 at hour " + hour, x.sees(0, 4));
            checks.holds("4 aslant at hour " + hour, x.sees(0, 52));
            checks.due("5 at hour " + hour, isNight ? 0 : 1, x.sees(0, 5) ? 1 : 0);
            checks.due("9 at hour " + hour, isNight ? 0 : 1, x.sees(9 * 12, 0) ? 1 : 0);
            checks.fails("10 at hour " + hour, x.sees(0, 10));
            checks.fails("10 downwards at hour " + hour, x.sees(5, 125));
            checks.holds("itself at hour " + hour, x.sees(7, 7));
            x.pass(1);
        }
    }

    private static void hiddenSight() {
        Siegelines x = Fields.plain(9, 5);
        x.ground(20, 0, 0, 1, 5);
        checks.fails("a wall between hides", x.sees(18, 22));
        checks.fails("and backwards", x.sees(22, 18));
        checks.holds("from the square ahead of it", x.sees(20, 22));
        Siegelines flat = Fields.plain(9, 5);
        flat.ground(19, 1, 0, 0, 0);
        checks.fails("2 * 2 is above 2 + 1", flat.sees(18, 20));
        checks.fails("2 * 3 is above 2 * 2 + 1", flat.sees(18, 21));
        checks.fails("2 * 3 is above 2 + 2 * 1, farther from who sees", flat.sees(21, 18));
        flat.ground(18, 1, 0, 0, 0);
        checks.holds("2 * 2 is not above 4 + 1", flat.sees(18, 20));
        checks.holds("0 * 2 is not above 2 - 2, into a trench", intoTrench(0, 0));
        checks.fails("2 * 2 is above 2 - 2", intoTrench(0, 1));
        checks.fails("2 * 2 is above 4 - 2", intoTrench(1, 1));
        checks.holds("2 * 2 is not above 6 - 2", intoTrench(2, 1));
        checks.fails("4 * 2 is above 6 - 2", intoTrench(2, 2));
    }

    /** Whether one sees from a height over a height into a trench two squares on. */
    private static boolean intoTrench(int height, int between) {
        Siegelines x = Fields.plain(9, 5);
        x.ground(18, height, 0, 0, 0);
        x.ground(19, between, 0, 0, 0);
        x.ground(20, 0, 0, 5, 0);
        return x.sees(18, 20);
    }

    private static void linesOfSight() {
        int[][] lines = {{0, 11, 6}, {11, 0, 6}, {5, 2, 6}, {2, 5, 6}, {0, 8, 1, 7}, {8, 0, 7, 1}, {0, 24, 6, 12, 18},
            {0, 13, 6, 7}, {13, 0, 7, 6}, {20, 3, 16, 12, 7}, {3, 20, 7, 12, 16}};
        for (int[] line : lines) {
            for (int square = 0; square < 25; square++) {
                if (square == line[0] || square == line[1]) {
                    continue;
                }
                Siegelines x = Fields.plain(5, 5);
                x.ground(square, 9, 0, 0, 0);
                boolean isBetween = false;
                for (int i = 2; i < line.length; i++) {
                    isBetween = isBetween || line[i] == square;
                }
                checks.due("whether " + square + " hides " + line[1] + " from " + line[0], isBetween ? 0 : 1,
                        x.sees(line[0], line[1]) ? 1 : 0);
            }
        }
    }

    private static void row() {
        Siegelines x = Fields.plain(8, 5);
        for (int work = 0; work <= 7; work++) {
            x.ground(8 + work, 0, 0, work, 9);
        }
        checks.due("all works", ".#~Tc=/u", x.row(1));
        x.company(0, 8, 1);
        x.company(1, 9, 1);
        x.company(0, 10, 1);
        x.company(1, 10, 1);
        checks.due("with companies", "ox*Tc=/u", x.row(1));
        checks.refuses("row -1", Checks.INDEX, x, () -> x.row(-1).length());
        checks.refuses("row 5", Checks.INDEX, x, () -> x.row(5).length());
    }

    /** A gun of the besiegers of a calibre at 9, and a garrison of 100 with a gun on a work at 12. */
    private static Siegelines facing(int calibre, int work, int powder) {
        Siegelines x = Fields.plain(9, 5);
        x.ground(12, 1, 0, work, 20);
        x.stores(0, powder, 500, 5, 60);
        x.stores(1, 100, 500, 5, 60);
        x.gun(0, 9, calibre);
        if (work != 2 && work < 6 && work != 5) {
            x.gun(1, 12, 1);
        } else {
            x.gun(1, 44, 1);
        }
        x.company(0, 0, 100);
        x.company(1, work == 5 ? 44 : 12, 100);
        x.company(1, 44, 100);
        x.begin();
        return x;
    }

    private static void wallUnderFire() {
        Siegelines x = facing(2, 1, 500);
        checks.due("no shot without an aim", 0, x.ofGun(0, 7));
        x.aim(0, 12);
        int[] shots = {4, 3, 2};
        int[] firm = {12, 6, 2};
        int[] hits = {4, 7, 9};
        int[] men = {98, 97, 96};
        int[] powder = {492, 486, 482};
        for (int hour = 0; hour < 3; hour++) {
            checks.due("shots that it would fire", shots[hour], x.ofGun(0, 7));
            x.pass(1);
            checks.due("how firm", firm[hour], x.ofSquare(12, 3));
            checks.due("hits", hits[hour], x.ofGun(1, 4));
            checks.due("ready, also with 9", 0, x.ofGun(1, 5));
            checks.due("men on the wall lose the half of the shots", men[hour], x.ofCompany(1, 2));
            checks.due("powder", powder[hour], x.ofSide(0, 0));
            checks.due("heat", hour + 1, x.ofGun(0, 3));
        }
        checks.due("shots ever", 9, x.ofSide(0, 7));
        checks.due("powder that was spent", 18, x.ofSide(0, 8));
        checks.due("losses", 4, x.ofSide(1, 9));
        checks.due("it stands", 0, x.ofSiege(4));
        x.aim(0, -1);
        int[] heat = {2, 1, 0, 0};
        for (int h : heat) {
            x.pass(1);
            checks.due("it cools", h, x.ofGun(0, 3));
        }
        checks.due("the company of the besiegers is whole", 100, x.ofCompany(0, 2));
    }

    private static void wallThatFalls() {
        Siegelines x = facing(2, 1, 500);
        x.aim(0, 12);
        x.pass(4);
        checks.due("a fall", 1, x.ofSiege(4));
        checks.due("a breach", 6, x.ofSquare(12, 2));
        checks.due("breaches", 1, x.ofSiege(10));
        checks.due("not firm", 0, x.ofSquare(12, 3));
        checks.due("its height is 1 less", 0, x.ofSquare(12, 0));
        checks.due("it is nobody's", -1, x.ofSquare(12, 7));
        checks.due("morale of the garrison", 52, x.ofSide(1, 3));
        checks.due("morale of the besiegers", 60, x.ofSide(0, 3));
        checks.due("men lose three for the last shot, as on a breach", 93, x.ofCompany(1, 2));
        checks.due("10 hits", 10, x.ofGun(1, 4));
        checks.due("it is dismounted", 1, x.ofGun(1, 5));
        checks.due("heat is 3 at most", 3, x.ofGun(0, 3));
        checks.due("one shot at heat 3", 1, x.ofGun(0, 7));
        x.pass(1);
        checks.due("heat stays", 3, x.ofGun(0, 3));
        checks.due("a breach does not fall", 1, x.ofSiege(4));
        checks.due("11 hits", 11, x.ofGun(1, 4));
        Siegelines low = Fields.plain(9, 5);
        low.ground(12, 0, 0, 1, 4);
        low.stores(0, 9, 9, 9, 60);
        low.stores(1, 9, 9, 9, 5);
        low.gun(0, 9, 1);
        low.company(0, 0, 9);
        low.company(1, 44, 9);
        low.begin();
        low.aim(0, 12);
        low.pass(1);
        checks.due("0 is no more firm", 6, low.ofSquare(12, 2));
        checks.due("height is 0 at least", 0, low.ofSquare(12, 0));
        checks.due("morale is 0 at least", 0, low.ofSide(1, 3));
    }

    private static void lossesByWork() {
        int[] byGun = {12, 2, 12, 2, 2, 0, 12, 12};
        int[] byMortar = {12, 4, 12, 4, 4, 0, 12, 12};
        for (int work = 0; work <= 7; work++) {
            if (work == 5) {
                continue;
            }
            Siegelines x = facing(1, work, 500);
            x.aim(0, 12);
            x.pass(1);
            checks.due("losses by a gun on work " + work, byGun[work], x.ofSide(1, 9));
            Siegelines y = facing(3, work, 500);
            y.aim(0, 12);
            y.pass(1);
            checks.due("losses by a mortar on work " + work, byMortar[work], y.ofSide(1, 9));
            checks.due("fires by a mortar on work " + work, work == 3 ? 4 : 0, y.ofSiege(6));
            checks.due("no fires by a gun on work " + work, 0, x.ofSiege(6));
            checks.due("powder by a mortar", 12, y.ofSide(0, 8));
        }
        Siegelines few = Fields.plain(9, 5);
        few.stores(0, 500, 5, 5, 60);
        few.gun(0, 9, 1);
        few.company(0, 0, 9);
        few.company(1, 12, 5);
        few.company(1, 12, 20);
        few.company(1, 44, 20);
        few.begin();
        few.aim(0, 12);
        few.pass(1);
        checks.due("more than all can not be lost", 0, few.ofCompany(1, 2));
        checks.due("each of them loses", 8, few.ofCompany(2, 2));
        checks.due("losses are men that were there", 17, few.ofSide(1, 9));
        checks.due("companies that are left", 2, few.ofSide(1, 6));
    }

    /** A garrison with a gun of a calibre at 9, of height 3 to see into trenches; companies of the besiegers in trenches at 12, and at 13 or 22. */
    private static Siegelines trenches(int calibre, int second) {
        Siegelines x = Fields.plain(9, 5);
        x.ground(9, 3, 0, 0, 0);
        x.ground(12, 0, 0, 5, 0);
        x.ground(second, 0, 0, 5, 0);
        x.stores(1, 500, 500, 5, 60);
        x.gun(1, 9, calibre);
        x.company(0, 12, 100);
        x.company(1, 44, 100);
        x.begin();
        x.aim(0, 12);
        return x;
    }

    private static void raked() {
        Siegelines x = trenches(1, 13);
        checks.due("raked from one square", 1, x.underFire(12, 1, 1));
        checks.due("the last trench is not raked", 0, x.underFire(13, 1, 1));
        x.pass(1);
        checks.due("twice the shots on a raked trench", 92, x.ofCompany(0, 2));
        Siegelines y = trenches(1, 22);
        checks.due("not raked", 0, y.underFire(12, 1, 1));
        y.pass(1);
        checks.due("the shots on a trench", 96, y.ofCompany(0, 2));
        Siegelines z = trenches(3, 13);
        z.pass(1);
        checks.due("a mortar does not rake", 96, z.ofCompany(0, 2));
        Siegelines w = trenches(1, 11);
        checks.due("a trench ahead is not one behind", 0, w.underFire(12, 1, 1));
    }

    /** Whether a gun on a height at a square rakes a trench at the second one; more trenches are told. */
    private static int rakes(int from, int trench, int behind) {
        Siegelines x = Fields.plain(5, 5);
        x.camp(19, 23);
        x.ground(trench, 0, 0, 5, 0);
        x.ground(behind, 0, 0, 5, 0);
        x.gun(1, from, 1);
        return x.underFire(trench, 1, 1);
    }

    private static void rakedInLine() {
        int[][] lines = {{0, 1, 2}, {0, 5, 10}, {12, 7, 2}, {12, 11, 10}, {12, 17, 22}, {0, 6, 12}, {24, 18, 12},
            {4, 8, 12}, {20, 16, 12}, {0, 7, 13}, {0, 11, 17}, {12, 18, 24}, {12, 6, 0}, {24, 17, 16}, {14, 12, 11}};
        for (int[] line : lines) {
            checks.due("raked from " + line[0] + " at " + line[1], 1, rakes(line[0], line[1], line[2]));
            for (int other = 0; other < 25; other++) {
                if (other != line[0] && other != line[1] && other != line[2] && other != 19 && other != 23) {
                    checks.due("not by a trench at " + other, 0, rakes(line[0], line[1], other));
                }
            }
        }
        int[][] edges = {{12, 10, 9}, {12, 14, 15}, {12, 2, 22}, {12, 22, 2}, {11, 10, 14}, {12, 4, 0}};
        for (int[] edge : edges) {
            checks.due("nothing is behind the edge at " + edge[1], 0, rakes(edge[0], edge[1], edge[2]));
        }
    }

    private static void underFire() {
        Siegelines x = Fields.plain(9, 5);
        x.ground(17, 0, 0, 5, 0);
        x.ground(16, 0, 0, 5, 0);
        x.ground(20, 0, 0, 5, 0);
        x.ground(24, 0, 0, 5, 0);
        x.ground(13, 3, 0, 0, 0);
        x.ground(9, 9, 0, 0, 0);
        x.gun(1, 14, 1);
        x.gun(1, 14, 3);
        x.gun(1, 15, 2);
        x.gun(0, 13, 2);
        x.gun(1, 4, 2);
        x.gun(1, 7, 2);
        x.gun(1, 9, 1);
        x.company(0, 0, 1);
        x.company(1, 44, 1);
        checks.due("guns that see 16, but for the one at 4 and, by night, at 9", 4, x.underFire(16, 1, 0));
        checks.due("guns of the besiegers that see 16", 1, x.underFire(16, 0, 0));
        checks.due("squares from which it is raked", 2, x.underFire(16, 1, 1));
        checks.due("squares of the besiegers", 1, x.underFire(16, 0, 1));
        checks.due("at the edge nothing is behind", 0, x.underFire(17, 1, 1));
        checks.due("no trench is not raked", 0, x.underFire(15, 1, 1));
        checks.due("a gun in the trench itself does not rake", 0, rakedFromItself());
        x.begin();
        x.pass(5);
        checks.due("guns that see 16 by day", 5, x.underFire(16, 1, 0));
        checks.due("squares from which it is raked by day", 3, x.underFire(16, 1, 1));
    }

    private static int rakedFromItself() {
        Siegelines x = Fields.plain(9, 5);
        x.ground(16, 0, 0, 5, 0);
        x.ground(17, 0, 0, 5, 0);
        x.ground(15, 0, 0, 5, 0);
        x.gun(0, 16, 1);
        return x.underFire(16, 0, 1);
    }

    private static void mortar() {
        Siegelines x = Fields.plain(12, 5);
        x.ground(3, 9, 0, 1, 99);
        x.stores(0, 500, 500, 0, 60);
        x.gun(0, 0, 3);
        x.gun(0, 0, 1);
        x.company(0, 0, 1);
        x.company(1, 59, 1);
        x.begin();
        int[] want = {0, 0, 0, 4, 4, 4, 4, 4, 4, 0, 0, 0};
        for (int column = 0; column < 12; column++) {
            x.aim(0, column);
            checks.due("a mortar over " + column, want[column], x.ofGun(0, 7));
            x.aim(1, column);
            checks.due("a gun over " + column, column <= 3 ? 4 : 0, x.ofGun(1, 7));
        }
        x.aim(0, 0);
        x.aim(1, 8);
        x.pass(1);
        checks.due("nothing was fired", 0, x.ofSide(0, 7));
        checks.due("no powder was spent", 500, x.ofSide(0, 0));
    }

    /** Guns of the garrison make walls less firm and fires in the town, too. */
    private static void garrisonAtTown() {
        Siegelines x = Fields.plain(9, 5);
        x.ground(12, 0, 0, 3, 0);
        x.ground(11, 0, 0, 1, 5);
        x.stores(1, 500, 500, 5, 60);
        x.gun(1, 9, 3);
        x.gun(1, 9, 2);
        x.company(0, 0, 100);
        x.company(1, 12, 100);
        x.company(1, 11, 100);
        x.begin();
        x.aim(0, 12);
        x.aim(1, 11);
        x.pass(1);
        checks.due("fires", 4, x.ofSiege(6));
        checks.due("a wall fell", 6, x.ofSquare(11, 2));
        checks.due("a fall", 1, x.ofSiege(4));
        checks.due("morale", 52, x.ofSide(1, 3));
        checks.due("own men are not hit", 0, x.ofSide(1, 9));
    }

    private static void ownCompanies() {
        Siegelines x = Fields.plain(9, 5);
        x.stores(0, 500, 500, 5, 60);
        x.gun(0, 9, 1);
        x.company(0, 12, 100);
        x.company(1, 12, 100);
        x.begin();
        x.aim(0, 12);
        x.pass(1);
        checks.due("own men there are not hit", 100, x.ofCompany(0, 2));
        checks.due("those of the other are", 88, x.ofCompany(1, 2));
    }

    /** Guns that are not ready count neither as seeing nor as raking, nor as targets. */
    private static void gunsNotReady() {
        Siegelines x = Fields.plain(9, 5);
        x.ground(20, 0, 0, 5, 0);
        x.ground(19, 0, 0, 5, 0);
        x.stores(0, 500, 500, 5, 60);
        for (int i = 0; i < 3; i++) {
            x.gun(0, 12, 1);
        }
        x.gun(1, 21, 1);
        x.gun(0, 21, 1);
        x.company(0, 20, 100);
        x.company(1, 44, 100);
        x.begin();
        checks.due("a gun sees it", 1, x.underFire(20, 1, 0));
        checks.due("and rakes it", 1, x.underFire(20, 1, 1));
        checks.due("it is the target", 21, x.target(0));
        for (int gun = 0; gun < 3; gun++) {
            x.aim(gun, 21);
        }
        x.pass(1);
        checks.due("dismounted", 1, x.ofGun(3, 5));
        checks.due("none sees it", 0, x.underFire(20, 1, 0));
        checks.due("nor rakes it", 0, x.underFire(20, 1, 1));
        checks.due("no target", -1, x.target(0));
        checks.due("no target of its own", -1, x.target(3));
        checks.due("four of the besiegers see it", 4, x.underFire(20, 0, 0));
        checks.due("one of their squares rakes it", 1, x.underFire(20, 0, 1));
    }

    private static void scarcePowder() {
        Siegelines x = facing(2, 1, 7);
        x.aim(0, 12);
        checks.due("no more shots than powder", 3, x.ofGun(0, 7));
        x.pass(1);
        checks.due("powder that is left", 1, x.ofSide(0, 0));
        checks.due("it fired", 1, x.ofGun(0, 3));
        checks.due("none by one barrel", 0, x.ofGun(0, 7));
        x.pass(1);
        checks.due("it did not fire", 0, x.ofGun(0, 3));
        checks.due("powder stays", 1, x.ofSide(0, 0));
        checks.due("three shots", 3, x.ofSide(0, 7));
    }

    private static void gunsAtGuns() {
        Siegelines x = Fields.plain(9, 5);
        x.stores(0, 500, 500, 5, 60);
        x.stores(1, 500, 500, 5, 60);
        x.gun(0, 9, 1);
        x.gun(0, 9, 1);
        x.gun(0, 9, 1);
        x.gun(1, 12, 1);
        x.gun(0, 12, 1);
        x.company(0, 0, 100);
        x.company(1, 44, 100);
        x.begin();
        x.aim(0, 12);
        x.aim(1, 12);
        x.aim(3, 9);
        x.pass(1);
        checks.due("8 hits do not dismount", 0, x.ofGun(3, 5));
        checks.due("own guns are not hit", 0, x.ofGun(4, 4));
        for (int gun = 0; gun < 3; gun++) {
            checks.due("each gun there is hit", 4, x.ofGun(gun, 4));
        }
        checks.due("ready guns", 1, x.ofSide(1, 12));
        x.aim(2, 12);
        x.pass(1);
        checks.due("8 and 3 and 3 and 4", 18, x.ofGun(3, 4));
        checks.due("it is dismounted", 1, x.ofGun(3, 5));
        checks.due("ready guns are less", 0, x.ofSide(1, 12));
        checks.due("it could not fire any more", 4, x.ofSide(1, 7));
        checks.due("a dismounted gun has no shots", 0, x.ofGun(3, 7));
        checks.due("and cools", 0, x.ofGun(3, 3));
    }

    private static void targets() {
        Siegelines x = Fields.plain(9, 5);
        x.gun(0, 18, 2);
        x.gun(1, 26, 1);
        x.company(0, 18, 55);
        x.company(1, 20, 99);
        x.company(1, 20, 99);
        checks.due("19 points of men", 20, x.target(0));
        x.ground(22, 0, 0, 1, 9);
        checks.due("a wall counts 20, by a calibre of 2", 22, x.target(0));
        x.ground(4, 0, 0, 1, 9);
        checks.due("of two walls the first", 4, x.target(0));
        x.gun(1, 11, 1);
        checks.due("a gun counts 20, too", 4, x.target(0));
        x.gun(1, 20, 1);
        checks.due("men and a gun", 20, x.target(0));
        checks.due("nothing that is seen", -1, x.target(1));
        checks.due("by night and by day", 18, x.target(2));
        x.ground(19, 0, 0, 1, 9);
        checks.due("what the wall hides does not count", 19, x.target(0));
        Siegelines y = Fields.plain(9, 5);
        y.gun(1, 18, 3);
        y.gun(1, 18, 2);
        y.company(0, 20, 9);
        y.ground(21, 0, 0, 1, 9);
        checks.due("walls do not count for the garrison", -1, y.target(1));
        checks.due("men below 10 do not", -1, y.target(0));
    }

    private static void evenTargets() {
        Siegelines x = Fields.plain(9, 5);
        x.camp(44, 40);
        x.gun(0, 9, 2);
        x.ground(12, 0, 0, 1, 9);
        checks.due("a wall by a calibre of 2", 12, x.target(0));
        x.gun(1, 11, 1);
        checks.due("a gun has as much", 11, x.target(0));
        x.company(1, 10, 199);
        checks.due("199 men have less", 11, x.target(0));
        x.company(1, 10, 1);
        checks.due("200 have as much", 10, x.target(0));
        x.gun(1, 0, 1);
        checks.due("at 0", 0, x.target(0));
        x.company(1, 12, 9);
        checks.due("9 men more are no point", 0, x.target(0));
        x.company(1, 12, 1);
        checks.due("10 are", 12, x.target(0));
    }

    private static void targetsOfMortar() {
        Siegelines x = Fields.plain(12, 5);
        x.gun(0, 0, 3);
        x.gun(1, 59, 1);
        x.company(0, 0, 5);
        x.company(1, 2, 200);
        x.company(1, 11, 200);
        checks.due("2 is too near, 11 too far", -1, x.target(0));
        x.company(1, 3, 10);
        checks.due("3 is not", 3, x.target(0));
        x.company(1, 56, 19);
        checks.due("the first one of 1 point each", 3, x.target(0));
        x.company(1, 56, 1);
        checks.due("men there together", 56, x.target(0));
        x.begin();
        checks.due("also by night, unseen", 56, x.target(0));
        checks.refuses("no such gun", Checks.INDEX, x, () -> x.target(2));
        checks.refuses("gun -1", Checks.INDEX, x, () -> x.target(-1));
        Siegelines y = Fields.plain(9, 5);
        y.stores(1, 50, 5, 5, 60);
        y.gun(0, 0, 1);
        y.gun(1, 3, 1);
        y.gun(1, 3, 1);
        y.gun(1, 3, 1);
        y.company(0, 9, 5);
        y.company(1, 3, 100);
        y.begin();
        checks.due("a gun that is ready", 3, y.target(0));
        for (int gun = 1; gun <= 3; gun++) {
            y.aim(gun, 0);
        }
        y.pass(1);
        checks.due("a gun that is dismounted", -1, y.target(0));
    }

    private static void wrong() {
        Siegelines x = facing(1, 1, 5);
        int[] squares = {-1, 45, Integer.MIN_VALUE, Integer.MAX_VALUE};
        for (int square : squares) {
            checks.refuses("ofSquare(" + square + ")", Checks.INDEX, x, () -> x.ofSquare(square, 10));
            checks.refuses("sees from " + square, Checks.INDEX, x, () -> x.sees(square, 0) ? 1 : 0);
            checks.refuses("sees " + square, Checks.INDEX, x, () -> x.sees(0, square) ? 1 : 0);
            checks.refuses("underFire(" + square + ")", Checks.INDEX, x, () -> x.underFire(square, 2, 2));
            checks.refuses("ofGun(" + square + ")", Checks.INDEX, x, () -> x.ofGun(square, 8));
        }
        checks.refuses("ofGun(2)", Checks.INDEX, x, () -> x.ofGun(2, 0));
        checks.refuses("ofSquare of 10", Checks.ARGUMENT, x, () -> x.ofSquare(0, 10));
        checks.refuses("ofSquare of -1", Checks.ARGUMENT, x, () -> x.ofSquare(0, -1));
        checks.refuses("ofGun of 8", Checks.ARGUMENT, x, () -> x.ofGun(0, 8));
        checks.refuses("ofGun of -1", Checks.ARGUMENT, x, () -> x.ofGun(0, -1));
        int[][] wrong = {{0, -1, 0}, {0, 2, 0}, {0, 0, -1}, {0, 0, 2}};
        for (int[] w : wrong) {
            checks.refuses("underFire of " + w[1] + " " + w[2], Checks.ARGUMENT, x,
                () -> x.underFire(w[0], w[1], w[2]));
        }
    }
}

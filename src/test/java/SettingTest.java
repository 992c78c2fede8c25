/** Promises 3 to 10: what is told ahead of the siege. */
final class SettingTest {
    private static final Checks checks = new Checks("SettingTest");

    public static void main(String[] args) {
        ground();
        groundWrong();
        camp();
        campWrong();
        stores();
        town();
        gun();
        gunWrong();
        company();
        muster();
        musterWrong();
        begin();
        checks.end();
    }

    private static void ground() {
        Siegelines x = Fields.plain(5, 5);
        checks.due("a wall", 1, x.ground(6, 9, 3, 1, 99));
        checks.due("a second wall", 2, x.ground(7, 0, 0, 1, 1));
        checks.due("the same wall again", 2, x.ground(6, 5, 1, 1, 70));
        checks.due("its height", 5, x.ofSquare(6, 0));
        checks.due("its soil", 1, x.ofSquare(6, 1));
        checks.due("its work", 1, x.ofSquare(6, 2));
        checks.due("how firm", 70, x.ofSquare(6, 3));
        checks.due("it belongs to the garrison", 1, x.ofSquare(6, 7));
        checks.due("a trench, whatever is told as firm", 1, x.ground(6, 1, 2, 5, -7));
        checks.due("a trench is not firm", 0, x.ofSquare(6, 3));
        checks.due("a trench belongs to the besiegers", 0, x.ofSquare(6, 7));
        checks.due("squares without work, this one too", 24, x.ground(6, 0, 0, 0, 1000));
        int[] owners = {-1, 1, -1, 1, 1, 0, -1, -1};
        for (int work = 0; work <= 7; work++) {
            x.ground(12, 2, 0, work, 50);
            checks.due("to whom work " + work + " belongs", owners[work], x.ofSquare(12, 7));
            checks.due("how firm work " + work + " is", work == 1 ? 50 : 0, x.ofSquare(12, 3));
        }
        checks.due("a cover on gate", 1, x.ground(24, 0, 0, 4, 0));
        checks.due("a town on gate", 1, x.ground(24, 0, 0, 3, 0));
        checks.due("camp without work", 22, x.ground(0, 4, 3, 0, 0));
    }

    private static void groundWrong() {
        Siegelines x = Fields.plain(5, 5);
        x.gun(0, 3, 1);
        x.company(1, 4, 9);
        int[][] indices = {{-1, 0, 0, 0, 0}, {25, 0, 0, 0, 0}, {Integer.MAX_VALUE, 77, 77, 77, 77}};
        for (int[] w : indices) {
            checks.refuses("ground of " + w[0], Checks.INDEX, x, () -> x.ground(w[0], w[1], w[2], w[3], w[4]));
        }
        int[][] wrong = {{6, -1, 0, 0, 0}, {6, 10, 0, 0, 0}, {6, 0, -1, 0, 0}, {6, 0, 4, 0, 0}, {6, 0, 0, -1, 0},
            {6, 0, 0, 8, 0}, {6, 0, 0, 1, 0}, {6, 0, 0, 1, 100}, {0, 0, 0, 1, 5}, {0, 0, 0, 3, 0}, {0, 0, 0, 4, 0},
            {0, 0, 0, 5, 0}, {24, 0, 0, 1, 5}, {24, 0, 0, 2, 0}, {24, 0, 0, 5, 0}, {24, 0, 0, 6, 0},
            {24, 0, 0, 7, 0}, {3, 0, 0, 8, 0}};
        for (int[] w : wrong) {
            checks.refuses("ground of " + w[0] + " as " + w[1] + " " + w[2] + " " + w[3] + " " + w[4],
                Checks.ARGUMENT, x, () -> x.ground(w[0], w[1], w[2], w[3], w[4]));
        }
        checks.refuses("ground below a gun", Checks.STATE, x, () -> x.ground(3, 0, 0, 0, 0));
        checks.refuses("ground below a company", Checks.STATE, x, () -> x.ground(4, 0, 0, 0, 0));
        x.company(0, 8, 9);
        checks.refuses("ground below besiegers", Checks.STATE, x, () -> x.ground(8, 0, 0, 0, 0));
        Siegelines begun = Fields.begun(5, 5);
        checks.refuses("ground in the siege", Checks.STATE, begun, () -> begun.ground(6, 0, 0, 0, 0));
        checks.refuses("wrong ground in the siege", Checks.ARGUMENT, begun, () -> begun.ground(6, 0, 0, 9, 0));
    }

    private static void camp() {
        Siegelines x = Fields.plain(9, 5);
        checks.due("far of both", 8, x.camp(0, 44));
        checks.due("far by rows", 4, x.camp(2, 39));
        checks.due("camp belongs to the besiegers", 0, x.ofSquare(2, 7));
        checks.due("gate belongs to the garrison", 1, x.ofSquare(39, 7));
        checks.due("the former camp is nobody's", -1, x.ofSquare(0, 7));
        checks.due("the former gate is nobody's", -1, x.ofSquare(44, 7));
        x.ground(20, 0, 0, 3, 0);
        x.ground(21, 0, 0, 4, 0);
        checks.due("gate in a town", 2, x.camp(22, 20));
        checks.due("gate in a cover", 1, x.camp(22, 21));
    }

    private static void campWrong() {
        Siegelines x = Fields.plain(9, 5);
        for (int work = 1; work <= 7; work++) {
            x.ground(10 + work, 0, 0, work, 5);
        }
        int[][] indices = {{-1, 5}, {45, 5}, {5, -1}, {5, 45}, {-1, -1}};
        for (int[] w : indices) {
            checks.refuses("camp(" + w[0] + ", " + w[1] + ")", Checks.INDEX, x, () -> x.camp(w[0], w[1]));
        }
        int[][] wrong = {{5, 5}, {11, 5}, {12, 5}, {13, 5}, {14, 5}, {15, 5}, {16, 5}, {17, 5},
            {5, 11}, {5, 12}, {5, 15}, {5, 16}, {5, 17}};
        for (int[] w : wrong) {
            checks.refuses("camp(" + w[0] + ", " + w[1] + ")", Checks.ARGUMENT, x, () -> x.camp(w[0], w[1]));
        }
        x.gun(0, 3, 1);
        checks.refuses("camp with a gun", Checks.STATE, x, () -> x.camp(5, 6));
        Siegelines y = Fields.plain(9, 5);
        y.company(1, 3, 1);
        checks.refuses("camp with a company", Checks.STATE, y, () -> y.camp(5, 6));
        checks.refuses("a wrong camp with a company", Checks.ARGUMENT, y, () -> y.camp(5, 5));
        Siegelines begun = Fields.begun(5, 5);
        checks.refuses("camp in the siege", Checks.STATE, begun, () -> begun.camp(5, 6));
    }

    private static void stores() {
        Siegelines x = Fields.plain(5, 5);
        checks.due("least stores", 0, x.stores(0, 0, 0, 0, 1));
        checks.due("most stores", 19998, x.stores(1, 9999, 9999, 999, 100));
        int[] want = {9999, 9999, 999, 100};
        for (int what = 0; what < 4; what++) {
            checks.due("stores " + what, want[what], x.ofSide(1, what));
            checks.due("stores of the other " + what, what == 3 ? 1 : 0, x.ofSide(0, what));
        }
        checks.due("in place of those before", 5, x.stores(1, 2, 3, 4, 5));
        checks.due("gabions in place", 4, x.ofSide(1, 2));
        int[][] wrong = {{-1, 0, 0, 0, 1}, {2, 0, 0, 0, 1}, {0, -1, 0, 0, 1}, {0, 10000, 0, 0, 1}, {0, 0, -1, 0, 1},
            {0, 0, 10000, 0, 1}, {0, 0, 0, -1, 1}, {0, 0, 0, 1000, 1}, {0, 0, 0, 0, 0}, {0, 0, 0, 0, 101}};
        Siegelines begun = Fields.begun(5, 5);
        for (int[] w : wrong) {
            checks.refuses("wrong stores", Checks.ARGUMENT, x, () -> x.stores(w[0], w[1], w[2], w[3], w[4]));
            checks.refuses("wrong stores in the siege", Checks.ARGUMENT, begun,
                () -> begun.stores(w[0], w[1], w[2], w[3], w[4]));
        }
        checks.refuses("stores in the siege", Checks.STATE, begun, () -> begun.stores(0, 1, 1, 1, 1));
    }

    private static void town() {
        Siegelines x = Fields.plain(5, 5);
        checks.due("least town", 0, x.town(0, 0, 1));
        checks.due("19 people eat nothing", 0, x.town(19, 0, 1));
        checks.due("most town", 100, x.town(2000, 200, 40));
        checks.due("people", 2000, x.ofSiege(5));
        checks.due("days", 40, x.ofSiege(8));
        int[][] wrong = {{-1, 0, 1}, {2001, 0, 1}, {0, -1, 1}, {0, 201, 1}, {0, 0, 0}, {0, 0, 41}};
        Siegelines begun = Fields.begun(5, 5);
        for (int[] w : wrong) {
            checks.refuses("wrong town", Checks.ARGUMENT, x, () -> x.town(w[0], w[1], w[2]));
            checks.refuses("wrong town in the siege", Checks.ARGUMENT, begun, () -> begun.town(w[0], w[1], w[2]));
        }
        checks.refuses("town in the siege", Checks.STATE, begun, () -> begun.town(1, 1, 1));
    }

    private static void gun() {
        Siegelines x = Fields.plain(5, 5);
        x.ground(12, 0, 0, 5, 0);
        x.ground(13, 0, 0, 1, 5);
        x.ground(14, 0, 0, 4, 0);
        x.ground(15, 0, 0, 3, 0);
        checks.due("on camp", 0, x.gun(0, 0, 1));
        checks.due("on gate", 1, x.gun(1, 24, 3));
        checks.due("in a trench", 2, x.gun(0, 12, 2));
        checks.due("on a wall", 3, x.gun(1, 13, 2));
        checks.due("in a cover", 4, x.gun(1, 14, 2));
        checks.due("in a town", 5, x.gun(1, 15, 2));
        checks.due("on nobody's square", 6, x.gun(0, 6, 2));
        checks.due("and of the other side there", 7, x.gun(1, 6, 2));
        int[] want = {1, 24, 3, 0, 0, 0, -1, 0};
        for (int what = 0; what <= 7; what++) {
            checks.due("a gun as placed, " + what, want[what], x.ofGun(1, what));
        }
        for (int number = 8; number < 16; number++) {
            checks.due("up to 16", number, x.gun(0, 0, 1));
        }
        checks.refuses("a 17th gun", Checks.STATE, x, () -> x.gun(0, 0, 1));
        checks.refuses("a wrong 17th gun", Checks.ARGUMENT, x, () -> x.gun(0, 0, 4));
        checks.due("ready guns of the besiegers", 11, x.ofSide(0, 12));
        checks.due("ready guns of the garrison", 5, x.ofSide(1, 12));
    }

    private static void gunWrong() {
        Siegelines x = Fields.plain(5, 5);
        int[] works = {2, 6, 7, 5, 1, 3, 4};
        for (int i = 0; i < works.length; i++) {
            x.ground(5 + i, 0, 0, works[i], 5);
        }
        checks.refuses("a gun nowhere", Checks.INDEX, x, () -> x.gun(0, 25, 1));
        checks.refuses("a gun at -1", Checks.INDEX, x, () -> x.gun(5, -1, 9));
        int[][] wrong = {{-1, 1, 1}, {2, 1, 1}, {0, 1, 0}, {0, 1, 4}, {0, 24, 1}, {1, 0, 1}, {0, 5, 1}, {1, 5, 1},
            {0, 6, 1}, {1, 6, 1}, {0, 7, 1}, {1, 7, 1}, {1, 8, 1}, {0, 9, 1}, {0, 10, 1}, {0, 11, 1}};
        for (int[] w : wrong) {
            checks.refuses("gun(" + w[0] + ", " + w[1] + ", " + w[2] + ")", Checks.ARGUMENT, x,
                () -> x.gun(w[0], w[1], w[2]));
        }
        Siegelines begun = Fields.begun(5, 5);
        checks.refuses("a gun in the siege", Checks.STATE, begun, () -> begun.gun(0, 0, 1));
    }

    private static void company() {
        Siegelines x = Fields.plain(5, 5);
        int[] works = {2, 6, 7, 5, 1, 3, 4};
        for (int i = 0; i < works.length; i++) {
            x.ground(5 + i, 0, 0, works[i], 5);
        }
        checks.refuses("a company nowhere", Checks.INDEX, x, () -> x.company(0, 25, 1));
        checks.refuses("a company at -1", Checks.INDEX, x, () -> x.company(9, -1, 0));
        int[][] wrong = {{-1, 1, 1}, {2, 1, 1}, {0, 1, 0}, {0, 1, 201}, {0, 24, 1}, {1, 0, 1}, {1, 8, 1}, {0, 9, 1},
            {0, 10, 1}, {0, 11, 1}};
        for (int[] w : wrong) {
            checks.refuses("company(" + w[0] + ", " + w[1] + ", " + w[2] + ")", Checks.ARGUMENT, x,
                () -> x.company(w[0], w[1], w[2]));
        }
        int[][] right = {{0, 0, 1}, {1, 24, 200}, {0, 5, 2}, {1, 5, 3}, {0, 6, 4}, {1, 7, 5}, {0, 8, 6}, {1, 9, 7},
            {1, 10, 8}, {1, 11, 9}, {0, 1, 10}, {1, 1, 11}};
        for (int i = 0; i < right.length; i++) {
            int[] r = right[i];
            checks.due("its number", i, x.company(r[0], r[1], r[2]));
            int[] want = {r[0], r[1], r[2], 0, 0, -1, r[2] * 14 * 110 / 100};
            for (int what = 0; what <= 6; what++) {
                checks.due("company " + i + " as placed, " + what, want[what], x.ofCompany(i, what));
            }
        }
        checks.refuses("a 13th company", Checks.STATE, x, () -> x.company(0, 0, 1));
        checks.refuses("a wrong 13th company", Checks.ARGUMENT, x, () -> x.company(0, 0, 0));
        Siegelines begun = Fields.begun(5, 5);
        checks.refuses("a company in the siege", Checks.STATE, begun, () -> begun.company(0, 0, 1));
    }

    private static void muster() {
        for (int seed = 0; seed < 100; seed++) {
            Siegelines x = Fields.plain(9, 7);
            x.camp(4, 60);
            x.stores(0, 9, 9, 9, 33);
            int[] drawn = Fields.drawn(seed, 23);
            int men = 0;
            int difference = x.muster(seed);
            for (int side = 0; side < 2; side++) {
                int at = side * 10;
                checks.due("powder", 100 + drawn[at], x.ofSide(side, 0));
                checks.due("food", 40 + drawn[at + 1], x.ofSide(side, 1));
                checks.due("gabions", 10 + drawn[at + 2] % 10, x.ofSide(side, 2));
                checks.due("morale stays", side == 0 ? 33 : 60, x.ofSide(side, 3));
                for (int i = 0; i < 4; i++) {
                    checks.due("side", side, x.ofCompany(side * 4 + i, 0));
                    checks.due("home", side == 0 ? 4 : 60, x.ofCompany(side * 4 + i, 1));
                    checks.due("men", 60 + drawn[at + 3 + i], x.ofCompany(side * 4 + i, 2));
                    men += (side == 0 ? 1 : -1) * (60 + drawn[at + 3 + i]);
                }
                for (int i = 0; i < 3; i++) {
                    checks.due("gun's side", side, x.ofGun(side * 3 + i, 0));
                    checks.due("gun's home", side == 0 ? 4 : 60, x.ofGun(side * 3 + i, 1));
                    checks.due("calibre", 1 + drawn[at + 7 + i] % 3, x.ofGun(side * 3 + i, 2));
                }
            }
            checks.due("men of both", men, difference);
            checks.due("people", 200 + drawn[20], x.ofSiege(5));
            checks.due("days", 4 + drawn[22] % 8, x.ofSiege(8));
            int powder = x.ofSide(0, 0);
            x.begin();
            x.pass(24);
            checks.due("supply", 5 + drawn[21] % 10, x.ofSide(0, 0) - powder);
        }
    }

    private static void musterWrong() {
        Siegelines x = Fields.plain(5, 5);
        checks.refuses("muster(-1)", Checks.ARGUMENT, x, () -> x.muster(-1));
        checks.refuses("muster(100)", Checks.ARGUMENT, x, () -> x.muster(100));
        x.gun(0, 0, 1);
        checks.refuses("muster with a gun", Checks.STATE, x, () -> x.muster(0));
        Siegelines y = Fields.plain(5, 5);
        y.company(0, 0, 1);
        checks.refuses("muster with a company", Checks.STATE, y, () -> y.muster(0));
        Siegelines z = Fields.plain(5, 5);
        z.muster(99);
        checks.refuses("muster again", Checks.STATE, z, () -> z.muster(99));
        z.begin();
        checks.refuses("muster in the siege", Checks.STATE, z, () -> z.muster(99));
        checks.refuses("wrong muster in the siege", Checks.ARGUMENT, z, () -> z.muster(100));
    }

    private static void begin() {
        Siegelines x = Fields.plain(5, 5);
        checks.refuses("begin without companies", Checks.STATE, x, () -> x.begin());
        x.company(0, 0, 1);
        checks.refuses("begin without a garrison", Checks.STATE, x, () -> x.begin());
        x.company(1, 24, 1);
        x.company(1, 24, 1);
        checks.due("the setting", 0, x.ofSiege(1));
        checks.due("companies of both", 3, x.begin());
        checks.due("the siege goes on", 1, x.ofSiege(1));
        checks.due("no honours yet", -1, x.ofSiege(2));
        checks.refuses("begin again", Checks.STATE, x, () -> x.begin());
        Siegelines y = Fields.plain(5, 5);
        y.company(1, 24, 1);
        checks.refuses("begin without besiegers", Checks.STATE, y, () -> y.begin());
    }
}

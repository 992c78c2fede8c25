/** Promises 1 and 2: a new object, and how a map is laid. */
final class LayTest {
    private static final Checks checks = new Checks("LayTest");

    public static void main(String[] args) {
        newObject();
        newObjectHasNothing();
        layByHundred();
        layBySeed();
        layTheFort();
        layCutForts();
        gateOnTheFort();
        layAgain();
        layWrong();
        checks.end();
    }

    private static void newObject() {
        Siegelines x = new Siegelines();
        for (int side = 0; side < 2; side++) {
            for (int what = 0; what <= 12; what++) {
                checks.due("ofSide(" + side + ", " + what + ") of a new object", what == 3 ? 60 : 0,
                        x.ofSide(side, what));
            }
        }
        for (int what = 0; what <= 12; what++) {
            int want = what == 2 ? -1 : what == 8 ? 10 : 0;
            checks.due("ofSiege(" + what + ") of a new object", want, x.ofSiege(what));
        }
        checks.holds("a new object is sound", x.isSound());
    }

    private static void newObjectHasNothing() {
        Siegelines x = new Siegelines();
        checks.refuses("ofSquare without a map", Checks.INDEX, x, () -> x.ofSquare(0, 2));
        checks.refuses("row without a map", Checks.INDEX, x, () -> x.row(0).length());
        checks.refuses("sees without a map", Checks.INDEX, x, () -> x.sees(0, 0) ? 1 : 0);
        checks.refuses("underFire without a map", Checks.INDEX, x, () -> x.underFire(0, 0, 0));
        checks.refuses("ofCompany without any", Checks.INDEX, x, () -> x.ofCompany(0, 0));
        checks.refuses("ofGun without any", Checks.INDEX, x, () -> x.ofGun(0, 0));
        checks.refuses("ofMine without any", Checks.INDEX, x, () -> x.ofMine(0, 0));
        checks.refuses("ground without a map", Checks.INDEX, x, () -> x.ground(0, 0, 0, 0, 0));
        checks.refuses("camp without a map", Checks.INDEX, x, () -> x.camp(0, 1));
        checks.refuses("gun without a map", Checks.INDEX, x, () -> x.gun(0, 0, 1));
        checks.refuses("company without a map", Checks.INDEX, x, () -> x.company(0, 0, 1));
        checks.refuses("muster without a map", Checks.STATE, x, () -> x.muster(1));
        checks.refuses("begin without a map", Checks.STATE, x, () -> x.begin());
        checks.due("stores without a map", 7, x.stores(0, 3, 4, 5, 6));
        checks.due("town without a map", 5, x.town(100, 1, 1));
    }

    private static void layByHundred() {
        Siegelines x = new Siegelines();
        checks.due("lay by 100 has no wall", 0, x.lay(5, 12, 100));
        for (int square = 0; square < 60; square++) {
            for (int what = 0; what <= 4; what++) {
                checks.due("ofSquare(" + square + ", " + what + ") by 100", 0, x.ofSquare(square, what));
            }
            int owner = square == 0 ? 0 : square == 59 ? 1 : -1;
            checks.due("to whom " + square + " belongs by 100", owner, x.ofSquare(square, 7));
        }
        checks.refuses("no square 60", Checks.INDEX, x, () -> x.ofSquare(60, 0));
        checks.due("a row by 100", ".....", x.row(11));
        checks.refuses("no row 12", Checks.INDEX, x, () -> x.row(12).length());
    }

    private static void layBySeed() {
        for (int seed = 0; seed < 100; seed++) {
            Siegelines x = new Siegelines();
            checks.due("walls by " + seed, 16, x.lay(12, 12, seed));
            int[] drawn = Fields.drawn(seed, 288);
            for (int square = 0; square < 144; square++) {
                int column = square % 12;
                int row = square / 12;
                boolean isFort = column >= 3 && column <= 9 && row >= 3 && row <= 9;
                if (!isFort) {
                    checks.due("height of " + square + " by " + seed, drawn[2 * square] % 3, x.ofSquare(square, 0));
                }
                int d = drawn[2 * square + 1] % 10;
                int soil = d < 6 ? 0 : d < 8 ? 1 : d == 8 ? 2 : 3;
                checks.due("soil of " + square + " by " + seed, soil, x.ofSquare(square, 1));
            }
        }
    }

    private static void layTheFort() {
        Siegelines x = new Siegelines();
        x.lay(12, 12, 7);
        checks.due("row 2", "............", x.row(2));
        checks.due("row 3", "....~~~~~...", x.row(3));
        checks.due("row 4", "...~#####~..", x.row(4));
        for (int row = 5; row <= 7; row++) {
            checks.due("row " + row, "...~#TTT#~..", x.row(row));
        }
        checks.due("row 8", "...~#####~..", x.row(8));
        checks.due("row 9", "....~~~~~...", x.row(9));
        checks.due("row 10", "............", x.row(10));
        checks.due("a wall is firm 40", 40, x.ofSquare(52, 3));
        checks.due("a wall has height 4", 4, x.ofSquare(52, 0));
        checks.due("a town has height 3", 3, x.ofSquare(65, 0));
        checks.due("a town is not firm", 0, x.ofSquare(65, 3));
        for (int column = 4; column <= 8; column++) {
            checks.due("the ditch at column " + column + " has height 0", 0, x.ofSquare(36 + column, 0));
        }
        checks.due("gate is at column 6 and row 6", 1, x.ofSquare(78, 7));
        checks.due("gate keeps its town", 3, x.ofSquare(78, 2));
        checks.due("the last square is nobody's", -1, x.ofSquare(143, 7));
        checks.due("camp is 0", 0, x.ofSquare(0, 7));
        int[] besides = {77, 79, 66, 90};
        for (int square : besides) {
            checks.due("a breach beside gate", 1, x.ground(square, 3, 0, 6, 0));
            x.ground(square, 3, 0, 3, 0);
        }
        checks.refuses("no breach on gate", Checks.ARGUMENT, x, () -> x.ground(78, 3, 0, 6, 0));
        x.muster(3);
        checks.due("besiegers muster on camp", 0, x.ofCompany(3, 1));
        checks.due("the garrison musters on gate", 78, x.ofCompany(4, 1));
    }

    private static void layCutForts() {
        layCut(5, 5, 0, "...~.", 24);
        layCut(6, 6, 3, "...~#.", 35);
        layCut(9, 5, 4, "...~####.", 44);
        layCut(10, 5, 5, "...~#####.", 49);
        layCut(12, 5, 5, "...~#####~..", 59);
        layCut(12, 6, 7, "...~#TTT#~..", 71);
        layCut(6, 12, 7, "......", 71);
        layCut(5, 12, 5, ".....", 59);
        layCut(7, 7, 5, "...~#TT", 48);
        layCut(7, 12, 9, ".......", 48);
        layCut(12, 7, 9, "...~#TTT#~..", 78);
        layCut(8, 8, 7, "...~#TTT", 54);
    }

    /** A map that cuts the fort: how many walls, the last row, and where gate is. */
    private static void layCut(int wide, int high, int walls, String last, int gate) {
        Siegelines x = new Siegelines();
        String name = "lay(" + wide + ", " + high + ")";
        checks.due(name + " walls", walls, x.lay(wide, high, 31));
        checks.due(name + " last row", last, x.row(high - 1));
        checks.due(name + " gate", 1, x.ofSquare(gate, 7));
        boolean isInside = wide > 6 && high > 6;
        checks.due(name + " work of gate", isInside ? 3 : 0, x.ofSquare(gate, 2));
        checks.due(name + " gate is not firm", 0, x.ofSquare(gate, 3));
        for (int square = 1; square < wide * high; square++) {
            int work = x.ofSquare(square, 2);
            int owner = square == gate || work == 1 || work == 3 ? 1 : -1;
            checks.due(name + " owner of " + square, owner, x.ofSquare(square, 7));
        }
    }

    /** Where the last square is one of the fort, gate keeps its height and soil, and the ditch beside it stays. */
    private static void gateOnTheFort() {
        int[][] maps = {{5, 5, 4}, {6, 6, 3}, {5, 6, 4}, {9, 5, 4}, {10, 5, 0}, {9, 6, 4}, {10, 6, 0}, {6, 9, 4}, {8, 6, 3}};
        for (int[] map : maps) {
            for (int seed = 0; seed < 100; seed++) {
                Siegelines x = new Siegelines();
                x.lay(map[0], map[1], seed);
                int gate = map[0] * map[1] - 1;
                int d = Fields.drawn(seed, 2 * gate + 2)[2 * gate + 1] % 10;
                checks.due("height of gate", map[2], x.ofSquare(gate, 0));
                checks.due("soil of gate", d < 6 ? 0 : d < 8 ? 1 : d == 8 ? 2 : 3, x.ofSquare(gate, 1));
                checks.due("work of gate", 0, x.ofSquare(gate, 2));
            }
        }
        Siegelines small = new Siegelines();
        checks.due("its wall is gone", 0, small.lay(5, 5, 9));
        checks.due("above it", "....~", small.row(3));
    }

    private static void layAgain() {
        Siegelines x = Fields.plain(6, 6);
        x.stores(0, 1, 2, 3, 4);
        x.stores(1, 1, 2, 3, 4);
        x.town(100, 20, 30);
        x.ground(7, 1, 1, 1, 5);
        x.camp(3, 4);
        x.gun(0, 3, 1);
        x.company(0, 3, 10);
        x.company(1, 4, 10);
        checks.due("lay again", 0, x.lay(6, 6, 100));
        checks.due("all that was told is gone", Fields.plain(6, 6).digest(), x.digest());
        for (int side = 0; side < 2; side++) {
            for (int what = 0; what <= 12; what++) {
                checks.due("ofSide of " + what, what == 3 ? 60 : 0, x.ofSide(side, what));
            }
        }
        checks.due("people", 0, x.ofSiege(5));
        checks.due("days", 10, x.ofSiege(8));
        checks.refuses("no gun", Checks.INDEX, x, () -> x.ofGun(0, 0));
        checks.refuses("no company", Checks.INDEX, x, () -> x.ofCompany(0, 0));
        checks.due("the first gun again", 0, x.gun(0, 0, 3));
        x.company(0, 0, 100);
        x.company(1, 35, 100);
        x.begin();
        x.pass(24);
        checks.due("supply is gone", 0, x.ofSide(0, 0));
        checks.due("the other map is gone", 1, smaller());
    }

    /** A smaller map after a greater one has nothing left of it; 1 if so. */
    private static int smaller() {
        Siegelines x = new Siegelines();
        x.lay(12, 12, 5);
        x.lay(5, 6, 100);
        return x.digest() == Fields.plain(5, 6).digest() ? 1 : 0;
    }

    private static void layWrong() {
        Siegelines x = Fields.plain(5, 5);
        int[][] wrong = {{4, 5, 0}, {13, 5, 0}, {5, 4, 0}, {5, 13, 0}, {5, 5, -1}, {5, 5, 101},
            {Integer.MIN_VALUE, 5, 0}, {5, Integer.MAX_VALUE, 0}, {65541, 5, 0}};
        for (int[] w : wrong) {
            checks.refuses("lay(" + w[0] + ", " + w[1] + ", " + w[2] + ")", Checks.ARGUMENT, x,
                () -> x.lay(w[0], w[1], w[2]));
        }
        Siegelines begun = Fields.begun(5, 5);
        checks.refuses("lay in the siege", Checks.STATE, begun, () -> begun.lay(5, 5, 1));
        checks.refuses("lay wrongly in the siege", Checks.ARGUMENT, begun, () -> begun.lay(4, 5, 1));
    }
}

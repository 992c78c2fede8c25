/**
 * Promises 2 to 35: each refused call, what it throws, and ahead of what. Every wrong value is told alone and together
 * with every other one, in each phase; "if several exceptions apply, the one that is named first is thrown; a method
 * that throws an exception changes nothing".
 */
final class RefusedTest {
    private static final Checks checks = new Checks("RefusedTest");
    private static final String INDEX = "IndexOutOfBoundsException";
    private static final String ARGUMENT = "IllegalArgumentException";
    private static final String STATE = "IllegalStateException";
    private static final int LEAST = Integer.MIN_VALUE;
    private static final int MOST = Integer.MAX_VALUE;
    private static final int[][] NOTHING = {};

    public static void main(String[] args) {
        boards();
        lay();
        ground();
        groundOfCampAndGate();
        groundThatIsTaken();
        camp();
        campOnWorks();
        stores();
        town();
        gun();
        gunOnWorks();
        gunOfMost();
        company();
        companyOnWorks();
        companyOfMost();
        muster();
        begin();
        order();
        orderBySide();
        aim();
        haul();
        right();
        mine();
        charge();
        blow();
        letter();
        expel();
        parley();
        pass();
        ofSquare();
        sees();
        underFire();
        ofPieces();
        ofSides();
        row();
        wouldBe();
        forecast();
        checks.end();
    }

    /** The fields are as they are named; otherwise what is refused there would be refused for something else. */
    private static void boards() {
        Siegelines x = Boards.siege();
        checks.due("the siege goes on", 1, x.ofSiege(1));
        checks.due("gun 1 is dismounted", 1, x.ofGun(1, 5));
        checks.due("a company is by it", 3, x.ofCompany(3, 1));
        checks.due("company 4 is gone", 0, x.ofCompany(4, 2));
        checks.due("mine 1 has no charge", 0, x.ofMine(1, 4));
        checks.due("the siege is over", 2, Boards.over().ofSiege(1));
        checks.due("powder of 5", 5, Boards.scarce().ofSide(1, 0));
        checks.due("mine 0 is blown", 2, Boards.afterBlow().ofMine(0, 6));
        checks.due("mine 1 is dug", 0, Boards.afterBlow().ofMine(1, 6));
        checks.due("mine 2 is crushed", 3, Boards.afterBlow().ofMine(2, 6));
        checks.due("and the siege goes on", 1, Boards.afterBlow().ofSiege(1));
    }

    /** The wrong values of an argument: its place in the call, then those beside both bounds, and the extremes. */
    private static int[] beside(int place, int least, int most) {
        return new int[] {place, least - 1, most + 1, LEAST, MOST};
    }

    /** Each wrong value, alone and with each other one; indices come ahead of arguments. */
    private static void cross(Subject x, String call, int[] right, int[][] indices, int[][] arguments) {
        for (int[] index : indices) {
            each(x, INDEX, call, right, index, indices);
            each(x, INDEX, call, right, index, arguments);
        }
        for (int[] argument : arguments) {
            each(x, ARGUMENT, call, right, argument, arguments);
        }
    }

    private static void each(Subject x, String want, String call, int[] right, int[] wrong, int[][] others) {
        for (int i = 1; i < wrong.length; i++) {
            int[] told = right.clone();
            told[wrong[0]] = wrong[i];
            x.refuses(want, call, told);
            for (int[] other : others) {
                for (int j = 1; j < other.length && other[0] != wrong[0]; j++) {
                    int[] both = told.clone();
                    both[other[0]] = other[j];
                    x.refuses(want, call, both);
                }
            }
        }
    }

    /** Where the right call is taken: wrong ones are refused, and then it is still taken. */
    private static void taken(String name, Subject.Maker maker, String call, int[] right, int[][] indices,
            int[][] arguments) {
        Subject x = new Subject(checks, name, maker);
        cross(x, call, right, indices, arguments);
        x.takes(null, call, right);
        x.end();
    }

    /** Where the right call is refused by the state: what is wrong with its arguments comes first all the same. */
    private static void refused(String name, Subject.Maker maker, String call, int[] right, int[][] indices,
            int[][] arguments) {
        Subject x = new Subject(checks, name, maker);
        x.refuses(STATE, call, right);
        cross(x, call, right, indices, arguments);
        x.refuses(STATE, call, right);
        x.end();
    }

    private static void lay() {
        int[] right = {6, 5, 3};
        int[][] wrong = {beside(0, 5, 12), beside(1, 5, 12), beside(2, 0, 100), {0, 0}, {1, 0}};
        taken("a new object", Siegelines::new, "lay", right, NOTHING, wrong);
        taken("a map", Boards::map, "lay", right, NOTHING, wrong);
        taken("the setting", Boards::placed, "lay", right, NOTHING, wrong);
        refused("the siege", Boards::siege, "lay", right, NOTHING, wrong);
        refused("the end", Boards::over, "lay", right, NOTHING, wrong);
        Subject x = new Subject(checks, "a map", Boards::map);
        x.takes("0", "lay", 5, 5, 100);
        x.takes("0", "lay", 12, 12, 100);
        x.takes("16", "lay", 12, 12, 0);
        x.takes("16", "lay", 12, 12, 99);
        x.takes("0", "lay", 5, 12, 100);
        x.takes("0", "lay", 12, 5, 100);
    }

    private static void ground() {
        int[] right = {20, 3, 2, 1, 50};
        int[][] indices = {beside(0, 0, 29)};
        int[][] wrong = {beside(1, 0, 9), beside(2, 0, 3), beside(3, 0, 7), beside(4, 1, 99), {4, -1}};
        taken("a map", Boards::map, "ground", right, indices, wrong);
        taken("the setting", Boards::placed, "ground", right, indices, wrong);
        refused("the siege", Boards::siege, "ground", right, indices, wrong);
        refused("the end", Boards::over, "ground", right, indices, wrong);
        Subject x = new Subject(checks, "a map", Boards::map);
        x.takes("2", "ground", 20, 0, 0, 1, 1);
        x.takes("2", "ground", 20, 9, 3, 1, 99);
        x.takes("23", "ground", 20, 9, 3, 0, LEAST);
        x.takes("2", "ground", 20, 0, 0, 7, MOST);
        x.takes("2", "ground", 28, 0, 0, 7, 0);
        for (int work = 2; work <= 7; work++) {
            x.takes("2", "ground", 1, 0, 0, work, 100);
        }
        Subject none = new Subject(checks, "a new object", Siegelines::new);
        none.refuses(INDEX, "ground", 0, 0, 0, 0, 0);
        none.refuses(INDEX, "ground", 0, -1, 4, 8, 0);
        none.end();
    }

    /** "It is CAMP and the WORK not 0, or GATE and the WORK 1, 2, 5, 6 or 7". */
    private static void groundOfCampAndGate() {
        Subject x = new Subject(checks, "a map", Boards::map);
        Subject held = new Subject(checks, "the setting", Boards::placed);
        Subject begun = new Subject(checks, "the siege", Boards::siege);
        for (int work = 1; work <= 7; work++) {
            x.refuses(ARGUMENT, "ground", Boards.CAMP, 0, 0, work, 50);
            held.refuses(ARGUMENT, "ground", Boards.CAMP, 0, 0, work, 50);
            begun.refuses(ARGUMENT, "ground", Boards.CAMP, 0, 0, work, 50);
            if (work == 3 || work == 4) {
                x.takes("2", "ground", Boards.GATE, 0, 0, work, 50);
                held.refuses(STATE, "ground", Boards.GATE, 0, 0, work, 50);
                begun.refuses(STATE, "ground", Boards.GATE, 0, 0, work, 50);
            } else {
                x.refuses(ARGUMENT, "ground", Boards.GATE, 0, 0, work, 50);
                held.refuses(ARGUMENT, "ground", Boards.GATE, 0, 0, work, 50);
                begun.refuses(ARGUMENT, "ground", Boards.GATE, 0, 0, work, 50);
            }
        }
        x.takes("23", "ground", Boards.CAMP, 9, 3, 0, 0);
        x.takes("23", "ground", Boards.GATE, 9, 3, 0, 0);
        held.refuses(STATE, "ground", Boards.CAMP, 0, 0, 0, 0);
        held.refuses(STATE, "ground", Boards.GATE, 0, 0, 0, 0);
        x.end();
        held.end();
        begun.end();
        Subject moved = new Subject(checks, "camp and gate elsewhere", () -> {
            Siegelines y = Boards.map();
            y.camp(20, 21);
            return y;
        });
        moved.refuses(ARGUMENT, "ground", 20, 0, 0, 3, 0);
        moved.refuses(ARGUMENT, "ground", 21, 0, 0, 5, 0);
        moved.takes("2", "ground", Boards.CAMP, 0, 0, 3, 0);
        moved.takes("2", "ground", Boards.GATE, 0, 0, 5, 0);
        moved.end();
    }

    /** "A GUN or a COMPANY is there": of both sides, and not where none is. */
    private static void groundThatIsTaken() {
        Subject x = new Subject(checks, "the setting", () -> {
            Siegelines y = Boards.map();
            y.gun(0, 1, 1);
            y.gun(1, 2, 3);
            y.company(0, 3, 1);
            y.company(1, 4, 200);
            return y;
        });
        for (int square = 1; square <= 4; square++) {
            x.refuses(STATE, "ground", square, 0, 0, 0, 0);
            x.refuses(STATE, "ground", square, 0, 0, 1, 1);
            x.refuses(ARGUMENT, "ground", square, 0, 0, 1, 0);
            x.refuses(ARGUMENT, "ground", square, 10, 0, 0, 0);
        }
        x.takes("23", "ground", 5, 0, 0, 0, 0);
        x.takes("23", "ground", 12, 0, 0, 0, 0);
        x.end();
    }

    private static void camp() {
        int[] right = {4, 5};
        int[][] indices = {beside(0, 0, 29), beside(1, 0, 29)};
        taken("a map", Boards::map, "camp", right, indices, NOTHING);
        refused("the siege", Boards::siege, "camp", right, indices, NOTHING);
        refused("the end", Boards::over, "camp", right, indices, NOTHING);
        refused("with a gun", () -> {
            Siegelines x = Boards.map();
            x.gun(1, 4, 1);
            return x;
        }, "camp", right, indices, NOTHING);
        refused("with a company", () -> {
            Siegelines x = Boards.map();
            x.company(0, 5, 1);
            return x;
        }, "camp", right, indices, NOTHING);
        Subject x = new Subject(checks, "a map", Boards::map);
        x.takes("5", "camp", 0, 29);
        x.takes("5", "camp", 29, 0);
        x.takes("1", "camp", 28, 29);
        x.takes("4", "camp", 29, 1);
    }

    /** "Both are the same, CAMP has a WORK, or GATE one of 1, 2, 5, 6 or 7", ahead of the state, behind the squares. */
    private static void campOnWorks() {
        Subject.Maker[] makers = {Boards::map, Boards::placed, Boards::siege, Boards::over};
        for (Subject.Maker maker : makers) {
            Subject x = new Subject(checks, "camp on works", maker);
            x.refuses(ARGUMENT, "camp", 4, 4);
            x.refuses(ARGUMENT, "camp", 0, 0);
            x.refuses(ARGUMENT, "camp", 29, 29);
            for (int work = 1; work <= 7; work++) {
                int there = Boards.WORKS[work];
                x.refuses(ARGUMENT, "camp", there, 4);
                x.refuses(ARGUMENT, "camp", there, there);
                x.refuses(INDEX, "camp", there, 30);
                x.refuses(INDEX, "camp", -1, there);
                if (work != 3 && work != 4) {
                    x.refuses(ARGUMENT, "camp", 4, there);
                } else if (maker == makers[0]) {
                    x.takes(null, "camp", 4, there);
                } else {
                    x.refuses(STATE, "camp", 4, there);
                }
            }
            x.end();
        }
    }

    private static void stores() {
        int[] right = {1, 20, 30, 40, 50};
        int[][] wrong = {beside(0, 0, 1), beside(1, 0, 9999), beside(2, 0, 9999), beside(3, 0, 999),
            beside(4, 1, 100), {4, -1}};
        taken("a new object", Siegelines::new, "stores", right, NOTHING, wrong);
        taken("the setting", Boards::placed, "stores", right, NOTHING, wrong);
        refused("the siege", Boards::siege, "stores", right, NOTHING, wrong);
        refused("the end", Boards::over, "stores", right, NOTHING, wrong);
        Subject x = new Subject(checks, "a map", Boards::map);
        x.takes("0", "stores", 0, 0, 0, 0, 1);
        x.takes("0", "stores", 1, 0, 0, 0, 1);
        x.takes("19998", "stores", 0, 9999, 9999, 999, 100);
        x.takes("19998", "stores", 1, 9999, 9999, 999, 100);
        x.takes("9999", "stores", 1, 9999, 0, 999, 1);
        x.takes("9999", "stores", 1, 0, 9999, 0, 100);
    }

    private static void town() {
        int[] right = {20, 30, 7};
        int[][] wrong = {beside(0, 0, 2000), beside(1, 0, 200), beside(2, 1, 40), {2, -1}};
        taken("a new object", Siegelines::new, "town", right, NOTHING, wrong);
        taken("the setting", Boards::placed, "town", right, NOTHING, wrong);
        refused("the siege", Boards::siege, "town", right, NOTHING, wrong);
        refused("the end", Boards::over, "town", right, NOTHING, wrong);
        Subject x = new Subject(checks, "a map", Boards::map);
        x.takes("0", "town", 0, 0, 1);
        x.takes("100", "town", 2000, 200, 40);
        x.takes("99", "town", 1999, 199, 39);
        x.takes("0", "town", 19, 0, 1);
        x.takes("1", "town", 20, 0, 1);
    }

    private static void gun() {
        int[] right = {0, 20, 1};
        int[][] indices = {beside(1, 0, 29)};
        int[][] wrong = {beside(0, 0, 1), beside(2, 1, 3), {2, -1}};
        taken("a map", Boards::map, "gun", right, indices, wrong);
        taken("the setting", Boards::placed, "gun", right, indices, wrong);
        refused("the siege", Boards::siege, "gun", right, indices, wrong);
        refused("the end", Boards::over, "gun", right, indices, wrong);
        refused("16 guns", () -> withGuns(16), "gun", right, indices, wrong);
        Subject x = new Subject(checks, "a map", Boards::map);
        x.takes("0", "gun", 0, Boards.CAMP, 1);
        x.takes("0", "gun", 1, Boards.GATE, 3);
        x.takes("0", "gun", 1, 28, 3);
        Subject none = new Subject(checks, "a new object", Siegelines::new);
        none.refuses(INDEX, "gun", 0, 0, 1);
        none.refuses(INDEX, "gun", 2, 0, 0);
        none.end();
    }

    private static Siegelines withGuns(int guns) {
        Siegelines x = Boards.map();
        for (int number = 0; number < guns; number++) {
            x.gun(number % 2, 20 + number % 2, 1 + number % 3);
        }
        return x;
    }

    /** "The SQUARE belongs to the other SIDE, or is a DITCH, BREACH or CRATER". */
    private static void gunOnWorks() {
        boolean[][] isTaken = {{true, false, false, false, false, true, false, false},
            {true, true, false, true, true, false, false, false}};
        int[] full = {16, 0};
        for (int guns : full) {
            Subject x = new Subject(checks, guns + " guns", () -> withGuns(guns));
            for (int side = 0; side <= 1; side++) {
                for (int work = 0; work <= 7; work++) {
                    int square = work == 0 ? 1 : Boards.WORKS[work];
                    if (!isTaken[side][work]) {
                        x.refuses(ARGUMENT, "gun", side, square, 1);
                    } else if (guns == 16) {
                        x.refuses(STATE, "gun", side, square, 1);
                    } else {
                        x.takes("0", "gun", side, square, 1);
                    }
                }
            }
            x.refuses(ARGUMENT, "gun", 0, Boards.GATE, 1);
            x.refuses(ARGUMENT, "gun", 1, Boards.CAMP, 1);
            x.end();
        }
    }

    private static void gunOfMost() {
        for (int guns = 14; guns <= 16; guns++) {
            int placed = guns;
            Subject x = new Subject(checks, guns + " guns", () -> withGuns(placed));
            if (guns < 16) {
                x.takes("" + guns, "gun", 0, 20, 1);
                x.takes("" + guns, "gun", 1, 20, 1);
            } else {
                x.refuses(STATE, "gun", 0, 20, 1);
                x.refuses(STATE, "gun", 1, 20, 1);
            }
            x.takes("" + (guns - 1) % 2, "ofGun", guns - 1, 0);
            x.refuses(INDEX, "ofGun", guns, 0);
            x.end();
        }
    }

    private static void company() {
        int[] right = {1, 20, 100};
        int[][] indices = {beside(1, 0, 29)};
        int[][] wrong = {beside(0, 0, 1), beside(2, 1, 200), {2, -1}};
        taken("a map", Boards::map, "company", right, indices, wrong);
        taken("the setting", Boards::placed, "company", right, indices, wrong);
        refused("the siege", Boards::siege, "company", right, indices, wrong);
        refused("the end", Boards::over, "company", right, indices, wrong);
        refused("12 companies", () -> withCompanies(12), "company", right, indices, wrong);
        Subject x = new Subject(checks, "a map", Boards::map);
        x.takes("0", "company", 0, Boards.CAMP, 1);
        x.takes("0", "company", 1, Boards.GATE, 200);
        x.takes("0", "company", 0, 28, 200);
        Subject none = new Subject(checks, "a new object", Siegelines::new);
        none.refuses(INDEX, "company", 0, 0, 1);
        none.refuses(INDEX, "company", 2, 0, 0);
        none.end();
    }

    private static Siegelines withCompanies(int companies) {
        Siegelines x = Boards.map();
        for (int number = 0; number < companies; number++) {
            x.company(number % 2, 20 + number % 2, 1 + number);
        }
        return x;
    }

    /** "The SQUARE belongs to the other SIDE"; a DITCH, BREACH or CRATER is let. */
    private static void companyOnWorks() {
        boolean[][] isTaken = {{true, false, true, false, false, true, true, true},
            {true, true, true, true, true, false, true, true}};
        int[] full = {12, 0};
        for (int companies : full) {
            Subject x = new Subject(checks, companies + " companies", () -> withCompanies(companies));
            for (int side = 0; side <= 1; side++) {
                for (int work = 0; work <= 7; work++) {
                    int square = work == 0 ? 1 : Boards.WORKS[work];
                    if (!isTaken[side][work]) {
                        x.refuses(ARGUMENT, "company", side, square, 1);
                    } else if (companies == 12) {
                        x.refuses(STATE, "company", side, square, 1);
                    } else {
                        x.takes("0", "company", side, square, 1);
                    }
                }
            }
            x.refuses(ARGUMENT, "company", 0, Boards.GATE, 1);
            x.refuses(ARGUMENT, "company", 1, Boards.CAMP, 1);
            x.end();
        }
    }

    private static void companyOfMost() {
        for (int companies = 10; companies <= 12; companies++) {
            int placed = companies;
            Subject x = new Subject(checks, companies + " companies", () -> withCompanies(placed));
            if (companies < 12) {
                x.takes("" + companies, "company", 0, 20, 200);
                x.takes("" + companies, "company", 1, 20, 200);
            } else {
                x.refuses(STATE, "company", 0, 20, 200);
                x.refuses(STATE, "company", 1, 20, 200);
            }
            x.takes("" + companies, "ofCompany", companies - 1, 2);
            x.refuses(INDEX, "ofCompany", companies, 0);
            x.end();
        }
    }

    private static void muster() {
        int[] right = {5};
        int[][] wrong = {beside(0, 0, 99)};
        taken("a map", Boards::map, "muster", right, NOTHING, wrong);
        refused("a new object", Siegelines::new, "muster", right, NOTHING, wrong);
        refused("one gun", () -> withGuns(1), "muster", right, NOTHING, wrong);
        refused("one company", () -> withCompanies(1), "muster", right, NOTHING, wrong);
        refused("the siege", Boards::siege, "muster", right, NOTHING, wrong);
        refused("the end", Boards::over, "muster", right, NOTHING, wrong);
        Subject x = new Subject(checks, "a map", Boards::map);
        x.takes(null, "muster", 0);
        x.takes(null, "muster", 99);
        Subject mustered = new Subject(checks, "mustered", () -> {
            Siegelines y = Boards.map();
            y.muster(0);
            return y;
        });
        mustered.refuses(STATE, "muster", 0);
        mustered.end();
    }

    private static void begin() {
        refused("a new object", Siegelines::new, "begin", new int[0], NOTHING, NOTHING);
        refused("a map", Boards::map, "begin", new int[0], NOTHING, NOTHING);
        refused("guns alone", () -> withGuns(16), "begin", new int[0], NOTHING, NOTHING);
        refused("besiegers alone", () -> withCompanies(1), "begin", new int[0], NOTHING, NOTHING);
        refused("the garrison alone", () -> {
            Siegelines x = Boards.map();
            x.company(1, 29, 200);
            return x;
        }, "begin", new int[0], NOTHING, NOTHING);
        refused("the siege", Boards::siege, "begin", new int[0], NOTHING, NOTHING);
        refused("the end", Boards::over, "begin", new int[0], NOTHING, NOTHING);
        new Subject(checks, "two", () -> withCompanies(2)).takes("2", "begin");
        new Subject(checks, "twelve", () -> withCompanies(12)).takes("12", "begin");
    }

    private static void order() {
        int[] right = {0, 2, 4};
        int[][] indices = {beside(0, 0, 5)};
        int[][] wrong = {beside(1, 0, 6)};
        taken("the siege", Boards::siege, "order", right, indices, wrong);
        refused("the setting", Boards::placed, "order", right, indices, wrong);
        refused("the end", Boards::over, "order", right, indices, wrong);
        int[] gone = {4, 2, 4};
        refused("one that is gone", Boards::siege, "order", gone, indices, wrong);
        int[] squares = {-1, 30, LEAST, MOST};
        Subject.Maker[] makers = {Boards::placed, Boards::siege, Boards::over};
        for (Subject.Maker maker : makers) {
            Subject x = new Subject(checks, "order", maker);
            for (int square : squares) {
                for (int company = 0; company <= 5; company++) {
                    x.refuses(INDEX, "order", company, 1, square);
                    x.refuses(INDEX, "order", company, 4, square);
                    x.refuses(INDEX, "order", company, 5, square);
                    x.refuses(INDEX, "order", company, 6, square);
                    x.refuses(ARGUMENT, "order", company, 7, square);
                    x.refuses(ARGUMENT, "order", company, -1, square);
                }
            }
            x.end();
        }
    }

    /** "Is 1 for the SIDE 1, or 6 for the SIDE 0", ahead of "no siege goes on, or it is GONE"; goals of 0, 2, 3 do not matter. */
    private static void orderBySide() {
        Subject.Maker[] makers = {Boards::placed, Boards::siege, Boards::over};
        int[] goals = {0, 29, 12};
        for (Subject.Maker maker : makers) {
            Subject x = new Subject(checks, "order by side", maker);
            for (int goal : goals) {
                x.refuses(ARGUMENT, "order", 1, 1, goal);
                x.refuses(ARGUMENT, "order", 3, 1, goal);
                x.refuses(ARGUMENT, "order", 0, 6, goal);
                x.refuses(ARGUMENT, "order", 4, 6, goal);
            }
            x.end();
        }
        Subject x = new Subject(checks, "order by side", Boards::siege);
        int[] free = {-1, 30, LEAST, MOST};
        for (int goal : free) {
            for (int order = 0; order <= 3; order += order == 0 ? 2 : 1) {
                x.takes("0", "order", 0, order, goal);
                x.takes("0", "order", 1, order, goal);
            }
        }
        x.takes("0", "order", 0, 1, 29);
        x.takes("0", "order", 1, 6, 0);
        for (int order = 4; order <= 5; order++) {
            x.takes("0", "order", 0, order, 0);
            x.takes("0", "order", 5, order, 29);
        }
    }

    private static void aim() {
        int[] right = {0, 3};
        int[][] indices = {beside(0, 0, 4), {1, -2, 30, LEAST, MOST}};
        taken("the siege", Boards::siege, "aim", right, indices, NOTHING);
        refused("the setting", Boards::placed, "aim", right, indices, NOTHING);
        refused("the end", Boards::over, "aim", right, indices, NOTHING);
        Subject none = new Subject(checks, "NONE is let", Boards::placed);
        none.refuses(STATE, "aim", 0, -1);
        none.end();
        Subject x = new Subject(checks, "the siege", Boards::siege);
        x.takes("3", "aim", 2, -1);
        x.takes("3", "aim", 4, 0);
        x.takes("-1", "aim", 1, 29);
        x.takes("-1", "aim", 0, -1);
    }

    private static void haul() {
        int[] right = {0, 1};
        int[][] indices = {beside(0, 0, 4), beside(1, 0, 29)};
        taken("the siege", Boards::siege, "haul", right, indices, NOTHING);
        refused("the setting", Boards::placed, "haul", right, indices, NOTHING);
        refused("the end", Boards::over, "haul", right, indices, NOTHING);
        int[][] wrong = {{0, 0}, {0, 2}, {0, 6}, {0, 7}, {0, 29}, {0, 5}, {1, 2}, {1, 4}, {1, 3}};
        Subject x = new Subject(checks, "the siege", Boards::siege);
        for (int[] w : wrong) {
            x.refuses(STATE, "haul", w[0], w[1]);
        }
        x.end();
    }

    private static void right() {
        int[] right = {1};
        int[][] indices = {beside(0, 0, 4)};
        taken("the siege", Boards::siege, "right", right, indices, NOTHING);
        refused("the setting", Boards::placed, "right", right, indices, NOTHING);
        refused("the end", Boards::over, "right", right, indices, NOTHING);
        int[] ready = {0};
        refused("a gun that is ready", Boards::siege, "right", ready, indices, NOTHING);
        refused("nobody there", () -> {
            Siegelines x = Boards.siege();
            for (int gun = 2; gun <= 4; gun++) {
                x.aim(gun, -1);
            }
            x.order(3, 4, 4);
            x.pass(1);
            return x;
        }, "right", right, indices, NOTHING);
    }

    private static void mine() {
        int[] right = {0, 1};
        int[][] indices = {beside(0, 0, 5)};
        int[][] wrong = {beside(1, 0, 3)};
        taken("the siege", Boards::siege, "mine", right, indices, wrong);
        refused("the setting", Boards::placed, "mine", right, indices, wrong);
        refused("the end", Boards::over, "mine", right, indices, wrong);
        int[] companies = {1, 2, 3, 4};
        for (int company : companies) {
            int[] nowhere = {company, 0};
            refused("no place for a mine", Boards::siege, "mine", nowhere, indices, wrong);
        }
        refused("6 mines", () -> withMines(6), "mine", right, indices, wrong);
        Subject x = new Subject(checks, "the siege", Boards::siege);
        for (int direction = 0; direction <= 3; direction++) {
            x.takes("3", "mine", 0, direction);
            x.takes("3", "mine", 5, direction);
        }
        new Subject(checks, "4 mines", () -> withMines(4)).takes("4", "mine", 0, 0);
        new Subject(checks, "5 mines", () -> withMines(5)).takes("5", "mine", 5, 3);
    }

    private static Siegelines withMines(int mines) {
        Siegelines x = Boards.siege();
        for (int number = 3; number < mines; number++) {
            x.mine(number % 2 == 0 ? 0 : 5, number % 4);
        }
        return x;
    }

    private static void charge() {
        int[] right = {1, 10};
        int[][] indices = {beside(0, 0, 2)};
        int[][] wrong = {beside(1, 1, 60), {1, -1}};
        taken("the siege", Boards::siege, "charge", right, indices, wrong);
        refused("the end", Boards::over, "charge", right, indices, wrong);
        int[] blown = {0, 10};
        refused("a mine that is blown", Boards::afterBlow, "charge", blown, indices, wrong);
        int[] crushed = {2, 10};
        refused("a mine that is crushed", Boards::afterBlow, "charge", crushed, indices, wrong);
        refused("no powder", Boards::scarce, "charge", new int[] {2, 6}, indices, wrong);
        Subject x = new Subject(checks, "the siege", Boards::siege);
        x.takes("1", "charge", 1, 1);
        x.takes("60", "charge", 1, 60);
        x.takes("65", "charge", 0, 60);
        Subject few = new Subject(checks, "powder of 5", Boards::scarce);
        few.takes("10", "charge", 2, 5);
        few.refuses(STATE, "charge", 2, 60);
        few.takes("65", "charge", 0, 60);
        few.end();
        Subject setting = new Subject(checks, "the setting", Boards::placed);
        setting.refuses(INDEX, "charge", 0, 10);
        setting.refuses(INDEX, "charge", 0, 61);
        setting.end();
    }

    private static void blow() {
        int[] right = {0};
        int[][] indices = {beside(0, 0, 2)};
        taken("the siege", Boards::siege, "blow", right, indices, NOTHING);
        refused("the end", Boards::over, "blow", right, indices, NOTHING);
        int[] empty = {1};
        refused("a mine without a charge", Boards::siege, "blow", empty, indices, NOTHING);
        refused("a mine that is blown", Boards::afterBlow, "blow", right, indices, NOTHING);
        int[] crushed = {2};
        refused("a mine that is crushed", Boards::afterBlow, "blow", crushed, indices, NOTHING);
        Subject setting = new Subject(checks, "the setting", Boards::placed);
        setting.refuses(INDEX, "blow", 0);
        setting.end();
    }

    private static void letter() {
        refused("the setting", Boards::placed, "letter", new int[0], NOTHING, NOTHING);
        refused("the end", Boards::over, "letter", new int[0], NOTHING, NOTHING);
        for (int hour = 1; hour < 25; hour++) {
            int passed = hour - 1;
            Subject x = new Subject(checks, "hour " + hour, () -> {
                Siegelines y = Boards.siege();
                if (passed > 0) {
                    y.pass(passed);
                }
                return y;
            });
            if (hour <= 4 || hour >= 20) {
                x.takes("1", "letter");
            } else {
                x.refuses(STATE, "letter");
                x.end();
            }
        }
        for (int letters = 5; letters <= 6; letters++) {
            int sent = letters;
            Subject x = new Subject(checks, letters + " letters", () -> {
                Siegelines y = Boards.siege();
                for (int number = 0; number < sent; number++) {
                    y.letter();
                }
                return y;
            });
            if (letters < 6) {
                x.takes("6", "letter");
            } else {
                x.refuses(STATE, "letter");
                x.end();
            }
        }
    }

    private static void expel() {
        int[] right = {100};
        int[][] wrong = {{0, 0, -1, 101, LEAST, MOST}};
        taken("the siege", Boards::siege, "expel", right, NOTHING, wrong);
        refused("the setting", Boards::placed, "expel", right, NOTHING, wrong);
        refused("the end", Boards::over, "expel", right, NOTHING, wrong);
        Subject x = new Subject(checks, "the siege", Boards::siege);
        x.takes("99", "expel", 1);
        x.takes("1", "expel", 99);
        x.takes("0", "expel", 100);
        Subject nobody = new Subject(checks, "no people", () -> {
            Siegelines y = Boards.siege();
            y.expel(100);
            return y;
        });
        nobody.refuses(ARGUMENT, "expel", 1);
        nobody.refuses(ARGUMENT, "expel", 0);
        nobody.end();
        Subject none = new Subject(checks, "a new object", Siegelines::new);
        none.refuses(ARGUMENT, "expel", 1);
        none.end();
    }

    private static void parley() {
        refused("a new object", Siegelines::new, "parley", new int[0], NOTHING, NOTHING);
        refused("the setting", Boards::placed, "parley", new int[0], NOTHING, NOTHING);
        refused("the end", Boards::over, "parley", new int[0], NOTHING, NOTHING);
        new Subject(checks, "the siege", Boards::siege).takes("1", "parley");
    }

    private static void pass() {
        int[] right = {48};
        int[][] wrong = {beside(0, 1, 48), {0, -1}};
        taken("the siege", Boards::siege, "pass", right, NOTHING, wrong);
        refused("a new object", Siegelines::new, "pass", right, NOTHING, wrong);
        refused("the setting", Boards::placed, "pass", right, NOTHING, wrong);
        refused("the end", Boards::over, "pass", right, NOTHING, wrong);
        Subject x = new Subject(checks, "the siege", Boards::siege);
        x.takes("2", "pass", 1);
        int[] left = {47, 1, 0};
        for (int hours : left) {
            refused(hours + " hours ahead of 2400", () -> upTo(2400 - hours), "pass", new int[] {hours + 1}, NOTHING,
                wrong);
            if (hours > 0) {
                new Subject(checks, hours + " hours are left", () -> upTo(2400 - hours)).takes("2400", "pass", hours);
            }
        }
    }

    /** A siege of two small companies with food for all days, so late. */
    private static Siegelines upTo(int clock) {
        Siegelines x = Boards.map();
        x.stores(0, 0, 9999, 0, 60);
        x.stores(1, 0, 9999, 0, 100);
        x.ground(14, 0, 0, 0, 0);
        x.company(0, 0, 49);
        x.company(1, 29, 49);
        x.begin();
        for (int hour = 0; hour < clock; hour += 48) {
            x.pass(Math.min(48, clock - hour));
        }
        return x;
    }

    private static void ofSquare() {
        int[] right = {29, 9};
        int[][] indices = {beside(0, 0, 29)};
        int[][] wrong = {beside(1, 0, 9)};
        Subject.Maker[] makers = {Boards::map, Boards::placed, Boards::siege, Boards::over};
        for (Subject.Maker maker : makers) {
            taken("ofSquare", maker, "ofSquare", right, indices, wrong);
            new Subject(checks, "ofSquare", maker).takes("0", "ofSquare", 0, 0);
        }
        Subject none = new Subject(checks, "a new object", Siegelines::new);
        none.refuses(INDEX, "ofSquare", 0, 0);
        none.refuses(INDEX, "ofSquare", 0, 10);
        none.end();
    }

    private static void sees() {
        int[] right = {0, 29};
        int[][] indices = {beside(0, 0, 29), beside(1, 0, 29)};
        Subject.Maker[] makers = {Boards::map, Boards::placed, Boards::siege, Boards::over};
        for (Subject.Maker maker : makers) {
            taken("sees", maker, "sees", right, indices, NOTHING);
        }
        Subject none = new Subject(checks, "a new object", Siegelines::new);
        none.refuses(INDEX, "sees", 0, 0);
        none.end();
    }

    private static void underFire() {
        int[] right = {29, 1, 1};
        int[][] indices = {beside(0, 0, 29)};
        int[][] wrong = {beside(1, 0, 1), beside(2, 0, 1)};
        Subject.Maker[] makers = {Boards::map, Boards::placed, Boards::siege, Boards::over};
        for (Subject.Maker maker : makers) {
            taken("underFire", maker, "underFire", right, indices, wrong);
            new Subject(checks, "underFire", maker).takes(null, "underFire", 0, 0, 0);
        }
        Subject none = new Subject(checks, "a new object", Siegelines::new);
        none.refuses(INDEX, "underFire", 0, 0, 0);
        none.refuses(INDEX, "underFire", 0, 2, 2);
        none.end();
    }

    private static void ofPieces() {
        String[] names = {"ofGun", "ofCompany", "ofMine"};
        int[] last = {4, 5, 2};
        int[] most = {7, 6, 8};
        Subject.Maker[] makers = {Boards::siege, Boards::over};
        for (int i = 0; i < 3; i++) {
            int[] right = {last[i], most[i]};
            int[][] indices = {beside(0, 0, last[i])};
            int[][] wrong = {beside(1, 0, most[i])};
            for (Subject.Maker maker : makers) {
                taken(names[i], maker, names[i], right, indices, wrong);
                new Subject(checks, names[i], maker).takes("0", names[i], 0, 0);
            }
            Subject.Maker[] empty = {Siegelines::new, Boards::map};
            for (Subject.Maker maker : empty) {
                Subject none = new Subject(checks, names[i] + " of none", maker);
                none.refuses(INDEX, names[i], 0, 0);
                none.refuses(INDEX, names[i], 0, most[i] + 1);
                none.end();
            }
        }
    }

    private static void ofSides() {
        Subject.Maker[] makers = {Siegelines::new, Boards::map, Boards::placed, Boards::siege, Boards::over};
        for (Subject.Maker maker : makers) {
            int[] right = {1, 12};
            int[][] wrong = {beside(0, 0, 1), beside(1, 0, 12)};
            taken("ofSide", maker, "ofSide", right, NOTHING, wrong);
            new Subject(checks, "ofSide", maker).takes(null, "ofSide", 0, 0);
            int[] last = {12};
            int[][] besides = {beside(0, 0, 12)};
            taken("ofSiege", maker, "ofSiege", last, NOTHING, besides);
            new Subject(checks, "ofSiege", maker).takes(null, "ofSiege", 0);
        }
    }

    private static void row() {
        int[] right = {4};
        int[][] indices = {beside(0, 0, 4)};
        Subject.Maker[] makers = {Boards::map, Boards::placed, Boards::siege, Boards::over};
        for (Subject.Maker maker : makers) {
            taken("row", maker, "row", right, indices, NOTHING);
            new Subject(checks, "row", maker).takes(null, "row", 0);
        }
        Subject none = new Subject(checks, "a new object", Siegelines::new);
        none.refuses(INDEX, "row", 0);
        none.end();
    }

    private static void wouldBe() {
        Subject.Maker[] makers = {Boards::placed, Boards::siege, Boards::over};
        int[][] goals = {beside(0, 0, 5), beside(1, 0, 29)};
        int[][] companies = {beside(0, 0, 5)};
        int[][] guns = {beside(0, 0, 4)};
        for (Subject.Maker maker : makers) {
            taken("march", maker, "march", new int[] {5, 29}, goals, NOTHING);
            taken("storm", maker, "storm", new int[] {5, 29}, goals, NOTHING);
            taken("sap", maker, "sap", new int[] {5}, companies, NOTHING);
            taken("target", maker, "target", new int[] {4}, guns, NOTHING);
        }
        Subject.Maker[] empty = {Siegelines::new, Boards::map};
        for (Subject.Maker maker : empty) {
            Subject none = new Subject(checks, "of none", maker);
            none.refuses(INDEX, "march", 0, 0);
            none.refuses(INDEX, "storm", 0, 0);
            none.refuses(INDEX, "sap", 0);
            none.refuses(INDEX, "target", 0);
            none.end();
        }
    }

    private static void forecast() {
        int[] right = {48, 4};
        int[][] wrong = {beside(0, 1, 48), {0, -1}, beside(1, 0, 4)};
        taken("the siege", Boards::siege, "forecast", right, NOTHING, wrong);
        refused("a new object", Siegelines::new, "forecast", right, NOTHING, wrong);
        refused("the setting", Boards::placed, "forecast", right, NOTHING, wrong);
        refused("the end", Boards::over, "forecast", right, NOTHING, wrong);
        Subject x = new Subject(checks, "the siege", Boards::siege);
        x.takes("-1", "forecast", 1, 0);
        x.takes("-1", "forecast", 1, 1);
        new Subject(checks, "at 2400", () -> upTo(2400)).takes("49", "forecast", 48, 2);
    }
}

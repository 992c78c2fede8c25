/** The empty field: a new object, a map without guns, companies and mines, a siege with next to nothing. */
final class EmptyFieldTest {
    private static final Checks checks = new Checks("EmptyFieldTest");
    private static final String INDEX = "IndexOutOfBoundsException";
    private static final String ARGUMENT = "IllegalArgumentException";
    private static final String STATE = "IllegalStateException";

    public static void main(String[] args) {
        newObjectRefuses();
        newObjectAnswers();
        newObjectTakesStores();
        mapWithoutPieces();
        mapWithoutSight();
        siegeWithoutGuns();
        siegeWithoutMines();
        siegeWithoutStores();
        siegeWithoutPeople();
        layOverAll();
        laidAgainAndAgain();
        checks.end();
    }

    /** Without a MAP there is no SQUARE, COMPANY, GUN or MINE, and no siege. */
    private static void newObjectRefuses() {
        Subject x = new Subject(checks, "a new object", Siegelines::new);
        String[] indices = {"ground", "camp", "gun", "company", "aim", "haul", "right", "mine", "charge", "blow",
            "ofSquare", "sees", "underFire", "ofGun", "ofCompany", "ofMine", "row", "march", "storm", "sap", "target",
            "order"};
        int[] numbers = {0, 1, -1, 24, Integer.MAX_VALUE, Integer.MIN_VALUE};
        for (String call : indices) {
            for (int number : numbers) {
                int[] arguments = {number, number, 1, 0, 5};
                x.refuses(INDEX, call, arguments);
            }
        }
        x.refuses(STATE, "muster", 0);
        x.refuses(ARGUMENT, "muster", 100);
        x.refuses(STATE, "begin");
        x.refuses(STATE, "letter");
        x.refuses(ARGUMENT, "expel", 1);
        x.refuses(ARGUMENT, "expel", 0);
        x.refuses(STATE, "parley");
        x.refuses(STATE, "pass", 1);
        x.refuses(ARGUMENT, "pass", 0);
        x.refuses(STATE, "forecast", 1, 0);
        x.refuses(ARGUMENT, "forecast", 49, 0);
        x.end();
    }

    private static void newObjectAnswers() {
        Siegelines x = new Siegelines();
        checks.due("the clock", 0, x.ofSiege(0));
        checks.due("the setting", 0, x.ofSiege(1));
        checks.due("no honours", -1, x.ofSiege(2));
        checks.due("no depth", 0, x.ofSiege(3));
        checks.due("days", 10, x.ofSiege(8));
        checks.due("morale", 120, x.ofSide(0, 3) + x.ofSide(1, 3));
        checks.holds("sound", x.isSound());
    }

    private static void newObjectTakesStores() {
        Siegelines x = new Siegelines();
        checks.due("stores", 5, x.stores(1, 2, 3, 4, 5));
        checks.due("town", 1, x.town(20, 3, 4));
        checks.due("powder", 2, x.ofSide(1, 0));
        checks.due("days", 4, x.ofSiege(8));
        checks.due("walls of the first map", 0, x.lay(5, 5, 100));
        checks.due("all that was told ahead is gone", Fields.plain(5, 5).digest(), x.digest());
    }

    private static void mapWithoutPieces() {
        Subject x = new Subject(checks, "a map", Boards::map);
        String[] guns = {"aim", "haul", "right", "ofGun", "target"};
        String[] others = {"order", "mine", "charge", "blow", "ofCompany", "ofMine", "march", "storm", "sap"};
        for (String call : guns) {
            x.refuses(INDEX, call, 0, 1, 2);
        }
        for (String call : others) {
            x.refuses(INDEX, call, 0, 1, 2);
        }
        x.refuses(STATE, "begin");
        x.refuses(STATE, "pass", 1);
        x.refuses(STATE, "forecast", 1, 0);
        x.refuses(STATE, "letter");
        x.refuses(STATE, "parley");
        x.refuses(ARGUMENT, "expel", 1);
        x.end();
    }

    private static void mapWithoutSight() {
        Siegelines x = Boards.map();
        for (int square = 0; square < 30; square++) {
            checks.due("guns that see " + square, 0, x.underFire(square, 0, 0) + x.underFire(square, 1, 0));
            checks.due("squares that rake it", 0, x.underFire(square, 0, 1) + x.underFire(square, 1, 1));
            checks.due("men there", 0, x.ofSquare(square, 8) + x.ofSquare(square, 9));
        }
        for (int side = 0; side <= 1; side++) {
            for (int what = 0; what <= 12; what++) {
                checks.due("ofSide of " + what, what == 3 ? 60 : 0, x.ofSide(side, what));
            }
        }
    }

    private static void siegeWithoutGuns() {
        Siegelines x = Fields.begun(5, 5);
        x.order(0, 1, 1);
        x.pass(2);
        checks.due("a trench without a gabion", 5, x.ofSquare(1, 2));
        checks.due("all gabions are left", 50, x.ofSide(0, 2));
        checks.due("no shots", 0, x.ofSide(0, 7) + x.ofSide(1, 7));
        checks.due("none sees it", 0, x.underFire(1, 1, 0));
        checks.refuses("no aim", Checks.INDEX, x, () -> x.aim(0, 0));
        checks.refuses("no target", Checks.INDEX, x, () -> x.target(0));
    }

    private static void siegeWithoutMines() {
        Siegelines x = Fields.begun(5, 5);
        checks.due("no mines", 0, x.ofSiege(12));
        checks.refuses("ofMine", Checks.INDEX, x, () -> x.ofMine(0, 0));
        checks.refuses("charge", Checks.INDEX, x, () -> x.charge(0, 1));
        checks.refuses("blow", Checks.INDEX, x, () -> x.blow(0));
        x.pass(48);
        checks.due("the clock", 48, x.ofSiege(0));
    }

    /** One man each, that eat nothing, with stores of nothing. */
    private static void siegeWithoutStores() {
        Siegelines x = Fields.plain(5, 5);
        x.gun(0, 0, 1);
        x.company(0, 0, 1);
        x.company(1, 24, 1);
        checks.due("two companies", 2, x.begin());
        x.aim(0, 1);
        checks.due("no shots without powder", 0, x.ofGun(0, 7));
        x.order(0, 3, 0);
        x.pass(48);
        checks.due("no shots were fired", 0, x.ofSide(0, 7));
        checks.due("no gabions by one man", 0, x.ofSide(0, 2));
        checks.due("no hunger", 0, x.ofSide(0, 4) + x.ofSide(1, 4));
        checks.due("nobody is sick", 0, x.ofSide(0, 11) + x.ofSide(1, 11));
        checks.due("two men", 2, x.ofSide(0, 5) + x.ofSide(1, 5));
        checks.due("morale", 120, x.ofSide(0, 3) + x.ofSide(1, 3));
        checks.holds("sound", x.isSound());
    }

    private static void siegeWithoutPeople() {
        Siegelines x = Fields.begun(5, 5);
        checks.refuses("expel one", Checks.ARGUMENT, x, () -> x.expel(1));
        checks.refuses("expel none", Checks.ARGUMENT, x, () -> x.expel(0));
        x.pass(24);
        checks.due("they eat nothing", 4990, x.ofSide(1, 1));
        checks.due("no people", 0, x.ofSiege(5));
    }

    /** "All that was told ahead is gone": guns, companies, works, camp and gate, stores and town. */
    private static void layOverAll() {
        Siegelines x = Boards.placed();
        x.lay(6, 5, 100);
        Siegelines fresh = new Siegelines();
        fresh.lay(6, 5, 100);
        checks.due("as a fresh one", Picture.of(fresh), Picture.of(x));
        Siegelines moved = Boards.map();
        moved.camp(20, 21);
        moved.lay(5, 5, 100);
        checks.due("camp is 0 again", 0, moved.ofSquare(0, 7));
        checks.due("gate is the last again", 1, moved.ofSquare(24, 7));
        checks.due("20 is nobody's", -1, moved.ofSquare(20, 7));
        Siegelines full = FullFieldTest.setting();
        full.lay(5, 5, 100);
        checks.due("guns from 0 on again", 0, full.gun(0, 0, 1));
        checks.due("companies from 0 on again", 0, full.company(0, 0, 1));
    }

    /** A greater map, a smaller one, a greater one again: nothing is left of those before. */
    private static void laidAgainAndAgain() {
        int[][] sizes = {{12, 12}, {5, 5}, {12, 5}, {5, 12}, {9, 9}, {12, 12}};
        Siegelines x = new Siegelines();
        for (int[] size : sizes) {
            for (int seed = 99; seed <= 100; seed++) {
                x.lay(size[0], size[1], seed);
                Siegelines fresh = new Siegelines();
                fresh.lay(size[0], size[1], seed);
                checks.due("digest of " + size[0] + " by " + size[1], fresh.digest(), x.digest());
                int count = size[0] * size[1];
                checks.refuses("no square more", Checks.INDEX, x, () -> x.ofSquare(count, 0));
                x.ground(count / 2, 9, 3, 5, 0);
                x.gun(0, 0, 1);
            }
        }
    }
}

/** Part 5: the bounds of mines; promises 15 to 17 and 27. */
final class MineEdgesTest {
    private static final Checks checks = new Checks("MineEdgesTest");
    private static final int[] COLUMNS = {0, 1, 0, -1};
    private static final int[] ROWS = {-1, 0, 1, 0};

    public static void main(String[] args) {
        mineAsBegun();
        mouthByWork();
        directionsOnTheMap();
        toilBySoil();
        sixSquares();
        soilOfTheLastSquare();
        mouthWithoutCompany();
        heardByFar();
        heardByOrder();
        heardWithTwoSquares();
        heardByHeads();
        heardWhileDug();
        chargeAndPowder();
        camouflet();
        reachByCharge();
        reachByHeight();
        reachAtTheEdge();
        thirdOfTheMen();
        gunsThatAreReady();
        wallsThatFall();
        craterByWork();
        craterHeight();
        craterNotOnCampOrGate();
        crushedByReach();
        crushedInEachState();
        crushedAndMorale();
        ownMinesStay();
        chargesThatAreSpent();
        overByAMine();
        checks.end();
    }

    private static String name(String what, int... numbers) {
        return what + " " + java.util.Arrays.toString(numbers);
    }

    /** A company of each side, of 9: of a side in its work at a square, of the other on its camp or gate; much powder. */
    private static Siegelines digging(Siegelines x, int side, int square, int direction) {
        x.stores(0, 999, 999, 0, 60);
        x.stores(1, 999, 999, 0, 60);
        x.ground(square, 0, 0, side == 0 ? 5 : 4, 0);
        x.company(side, square, 9);
        x.company(1 - side, side == 0 ? 44 : 0, 9);
        x.begin();
        x.mine(0, direction);
        return x;
    }

    /** "CHARGE (0 at first), TOIL (0 at first) and a STATE (0 DUG)"; one SQUARE, MOUTH and HEAD. */
    private static void mineAsBegun() {
        for (int side = 0; side <= 1; side++) {
            for (int direction = 0; direction <= 3; direction++) {
                Siegelines x = digging(Fields.plain(9, 5), side, 20, direction);
                int[] want = {side, 20, 20, direction, 0, 0, 0, 1, 0};
                for (int what = 0; what <= 8; what++) {
                    checks.due(name("ofMine", side, direction, what), want[what], x.ofMine(0, what));
                }
                checks.due("mines", 1, x.ofSiege(12));
            }
        }
        checks.due("none at first", 0, Fields.begun(5, 5).ofSiege(12));
    }

    /** "A TRENCH (SIDE 0), or a WALL, TOWN or COVER (SIDE 1)". */
    private static void mouthByWork() {
        for (int work = 0; work <= 7; work++) {
            for (int side = 0; side <= 1; side++) {
                boolean isOthers = side == 0 ? work == 1 || work == 3 || work == 4 : work == 5;
                if (isOthers) {
                    continue;
                }
                Siegelines x = Fields.plain(9, 5);
                x.ground(20, 0, 0, work, 9);
                x.company(side, 20, 1);
                x.company(1 - side, side == 0 ? 44 : 0, 1);
                x.begin();
                boolean isMouth = side == 0 ? work == 5 : work == 1 || work == 3 || work == 4;
                if (isMouth) {
                    checks.due(name("begun", work, side), 0, x.mine(0, 3));
                } else {
                    checks.refuses(name("begun", work, side), Checks.STATE, x, () -> x.mine(0, 3));
                }
            }
        }
        Siegelines gate = Fields.begun(5, 5);
        checks.refuses("on gate without a work", Checks.STATE, gate, () -> gate.mine(1, 0));
        checks.refuses("on camp", Checks.STATE, gate, () -> gate.mine(0, 0));
    }

    /** "Not on the MAP": from each square in each direction; a row's end is one. */
    private static void directionsOnTheMap() {
        for (int square = 1; square < 29; square++) {
            for (int direction = 0; direction <= 3; direction++) {
                Siegelines x = Fields.plain(6, 5);
                x.ground(square, 0, 0, 5, 0);
                x.company(0, square, 1);
                x.company(1, 29, 1);
                x.begin();
                x.mine(0, direction);
                int head = square;
                for (int hours = 4; hours <= 20; hours += 4) {
                    x.pass(4);
                    int c = head % 6 + COLUMNS[direction];
                    int r = head / 6 + ROWS[direction];
                    boolean isOn = c >= 0 && c < 6 && r >= 0 && r < 5;
                    head = isOn ? r * 6 + c : head;
                    checks.due(name("head", square, direction, hours), head, x.ofMine(0, 2));
                    checks.due(name("state", square, direction, hours), isOn ? 0 : 1, x.ofMine(0, 6));
                    checks.due("toil", 0, x.ofMine(0, 5));
                }
            }
        }
    }

    /** "With 4, if that next SQUARE is EARTH, or 6, if it is CLAY, that is its HEAD"; "MARSH, ROCK: it is STOPPED". */
    private static void toilBySoil() {
        int[] needed = {4, 6, 0, 0};
        for (int soil = 0; soil <= 3; soil++) {
            Siegelines x = Fields.plain(9, 5);
            x.ground(21, 0, soil, 0, 0);
            digging(x, 0, 20, 1);
            for (int hour = 1; hour <= 6; hour++) {
                x.pass(1);
                boolean isThrough = soil < 2 && hour >= needed[soil];
                checks.due(name("head", soil, hour), isThrough ? 21 : 20, x.ofMine(0, 2));
                checks.due(name("squares", soil, hour), isThrough ? 2 : 1, x.ofMine(0, 7));
                checks.due(name("toil", soil, hour), soil > 1 ? 0 : isThrough ? hour - needed[soil] : hour,
                        x.ofMine(0, 5));
                checks.due(name("state", soil, hour), soil > 1 ? 1 : 0, x.ofMine(0, 6));
                checks.due("its mouth", 20, x.ofMine(0, 1));
            }
        }
    }

    /** "Or it has 6 SQUARES": of 5 it goes on, of 6 it is STOPPED in the next HOUR. */
    private static void sixSquares() {
        Siegelines x = digging(Fields.plain(9, 5), 0, 18, 1);
        for (int squares = 2; squares <= 6; squares++) {
            x.pass(4);
            checks.due("squares", squares, x.ofMine(0, 7));
            checks.due("its head", 17 + squares, x.ofMine(0, 2));
            checks.due("dug", 0, x.ofMine(0, 6));
        }
        x.pass(1);
        checks.due("stopped", 1, x.ofMine(0, 6));
        checks.due("toil", 0, x.ofMine(0, 5));
        x.pass(9);
        checks.due("of six for good", 6, x.ofMine(0, 7));
        checks.due("its head", 23, x.ofMine(0, 2));
    }

    /** What is on the squares (WORK, CAMP, GATE, companies) does not matter below them, and the MOUTH's SOIL does not. */
    private static void soilOfTheLastSquare() {
        for (int work = 0; work <= 7; work++) {
            Siegelines x = Fields.plain(9, 5);
            x.ground(21, 9, 0, work, 9);
            digging(x, 0, 20, 1);
            x.pass(4);
            checks.due("below work " + work, 21, x.ofMine(0, 2));
        }
        Siegelines rock = Fields.plain(9, 5);
        rock.ground(20, 0, 3, 5, 0);
        rock.company(0, 20, 1);
        rock.company(1, 44, 1);
        rock.begin();
        rock.mine(0, 1);
        rock.pass(4);
        checks.due("from a mouth of rock", 21, rock.ofMine(0, 2));
    }

    /** "With a COMPANY of its SIDE (not GONE) on its MOUTH". */
    private static void mouthWithoutCompany() {
        Siegelines x = digging(Fields.plain(9, 5), 0, 20, 1);
        x.order(0, 4, 19);
        x.pass(9);
        checks.due("nobody is there", 0, x.ofMine(0, 5));
        checks.due("dug", 0, x.ofMine(0, 6));
        Siegelines edge = digging(Fields.plain(9, 5), 0, 18, 3);
        edge.order(0, 4, 19);
        edge.pass(9);
        checks.due("nor is it stopped", 0, edge.ofMine(0, 6));
        Siegelines gone = Fields.plain(9, 5);
        gone.ground(20, 0, 0, 5, 0);
        gone.stores(1, 99, 99, 0, 60);
        gone.gun(1, 22, 3);
        gone.gun(1, 23, 3);
        gone.company(0, 20, 4);
        gone.company(0, 0, 9);
        gone.company(1, 44, 9);
        gone.begin();
        gone.mine(0, 1);
        gone.pass(1);
        gone.aim(1, 20);
        gone.pass(1);
        checks.due("gone on the mouth", 20, gone.ofCompany(0, 1) + gone.ofCompany(0, 2));
        checks.due("it does not go on", 1, gone.ofMine(0, 5));
    }

    /** "On a SQUARE that is FAR 2 or less from its HEAD": each square of the map, by columns, rows, over a row's end. */
    private static void heardByFar() {
        for (int listener = 0; listener < 45; listener++) {
            Siegelines x = Fields.plain(9, 5);
            x.ground(26, 0, 0, 5, 0);
            x.camp(1, 2);
            x.company(0, 26, 1);
            if (listener != 1 && listener != 26) {
                x.company(1, listener, 1);
                x.begin();
                x.mine(0, 3);
                x.pass(4);
                x.order(1, 2, 0);
                int far = Math.max(Math.abs(listener % 9 - 7), Math.abs(listener / 9 - 2));
                checks.due(name("heard at", listener), far <= 2 ? 1 : 0, x.ofMine(0, 8));
            }
        }
    }

    /** "With an ORDER other than 0 and 4 (how TIRED it is does not matter)". */
    private static void heardByOrder() {
        int[] heard = {0, 1, 1, 1, 0, 1, 1};
        for (int side = 0; side <= 1; side++) {
            for (int order = 0; order <= 6; order++) {
                if (order == (side == 0 ? 6 : 1)) {
                    continue;
                }
                Siegelines x = Fields.plain(9, 5);
                x.ground(20, 0, 0, side == 1 ? 5 : 4, 0);
                x.company(1 - side, 20, 9);
                x.company(side, 23, 9);
                x.company(side, side == 0 ? 0 : 44, 9);
                x.begin();
                x.mine(0, 1);
                x.pass(4);
                x.order(1, order, 44 - side * 44);
                checks.due(name("heard by", side, order), heard[order], x.ofMine(0, 8));
                x.order(1, 3, 0);
                x.pass(10);
                checks.due("tired of 10", 10, x.ofCompany(1, 3));
                x.order(1, order, 44 - side * 44);
                checks.due(name("heard by a tired one", side, order), heard[order], x.ofMine(0, 8));
            }
        }
    }

    /** "And has more than one SQUARE": of one it is not HEARD, by one beside it. */
    private static void heardWithTwoSquares() {
        Siegelines x = Fields.plain(9, 5);
        x.ground(20, 0, 0, 5, 0);
        x.company(0, 20, 9);
        x.company(1, 19, 9);
        x.begin();
        x.mine(0, 1);
        x.order(1, 2, 0);
        for (int hour = 1; hour <= 5; hour++) {
            checks.due(name("one square in hour", hour), hour == 5 ? 1 : 0, x.ofMine(0, 8));
            x.pass(1);
        }
    }

    /** "Or a HEAD of a MINE of that SIDE that is DUG or STOPPED": of any length, 2 far but not 3. */
    private static void heardByHeads() {
        for (int apart = 3; apart <= 6; apart++) {
            Siegelines x = Fields.plain(9, 5);
            x.ground(18, 0, 0, 5, 0);
            x.ground(18 + apart, 0, 0, 4, 0);
            x.ground(9 + apart, 0, 3, 0, 0);
            x.stores(1, 99, 99, 0, 60);
            x.company(0, 18, 9);
            x.company(1, 18 + apart, 9);
            x.begin();
            x.mine(0, 1);
            x.pass(4);
            checks.due("no head yet", 0, x.ofMine(0, 8));
            x.mine(1, 0);
            boolean isHeard = apart - 1 <= 2;
            checks.due(name("by a head of one square", apart), isHeard ? 1 : 0, x.ofMine(0, 8));
            checks.due("that is not heard itself", 0, x.ofMine(1, 8));
            x.order(0, 4, 9);
            x.pass(1);
            checks.due("stopped", 1, x.ofMine(1, 6));
            checks.due(name("by a stopped head", apart), isHeard ? 1 : 0, x.ofMine(0, 8));
            x.charge(1, 1);
            x.blow(1);
            checks.due("dug", 0, x.ofMine(0, 6));
            checks.due("not by one that is blown", 0, x.ofMine(0, 8));
        }
        Siegelines own = Fields.plain(9, 5);
        own.ground(20, 0, 0, 5, 0);
        own.company(0, 20, 9);
        own.company(1, 44, 9);
        own.begin();
        own.mine(0, 1);
        own.mine(0, 1);
        own.pass(4);
        checks.due("own heads do not count", 0, own.ofMine(0, 8) + own.ofMine(1, 8));
    }

    /** "If it is DUG": STOPPED or BLOWN it is not HEARD. */
    private static void heardWhileDug() {
        Siegelines x = Fields.plain(9, 5);
        x.ground(20, 0, 0, 5, 0);
        x.ground(22, 0, 3, 0, 0);
        x.stores(0, 99, 99, 0, 60);
        x.company(0, 20, 9);
        x.company(1, 23, 9);
        x.begin();
        x.mine(0, 1);
        x.order(1, 2, 0);
        x.pass(4);
        checks.due("dug: heard", 1, x.ofMine(0, 8));
        x.pass(1);
        checks.due("stopped", 1, x.ofMine(0, 6));
        checks.due("not heard", 0, x.ofMine(0, 8));
        x.charge(0, 1);
        x.blow(0);
        checks.due("blown", 2, x.ofMine(0, 6));
        checks.due("not heard, too", 0, x.ofMine(0, 8));
    }

    /** "POWDER of its SIDE is so much less, its CHARGE more": down to none, and no further. */
    private static void chargeAndPowder() {
        for (int side = 0; side <= 1; side++) {
            Siegelines x = Fields.plain(9, 5);
            x.stores(side, 61, 99, 0, 60);
            x.stores(1 - side, 5, 99, 0, 60);
            x.ground(20, 0, 0, side == 0 ? 5 : 3, 0);
            x.company(side, 20, 9);
            x.company(1 - side, 44 - side * 44, 9);
            x.begin();
            x.mine(0, 1);
            checks.due("60", 60, x.charge(0, 60));
            checks.due("one is left", 1, x.ofSide(side, 0));
            checks.refuses("two are too many", Checks.STATE, x, () -> x.charge(0, 2));
            checks.due("the last one", 61, x.charge(0, 1));
            checks.due("none is left", 0, x.ofSide(side, 0));
            checks.refuses("one is too many", Checks.STATE, x, () -> x.charge(0, 1));
            checks.due("the other's powder", 5, x.ofSide(1 - side, 0));
            checks.due("none is spent", 0, x.ofSide(side, 8));
            checks.holds("sound", x.isSound());
        }
    }

    /** "With a CHARGE of 4 or less it is a CAMOUFLET: only MINES are crushed". */
    private static void camouflet() {
        for (int charge = 1; charge <= 7; charge++) {
            Siegelines x = Fields.plain(9, 5);
            x.gun(0, 20, 1);
            x.gun(1, 20, 1);
            x.stores(0, 99, 99, 0, 60);
            x.ground(11, 0, 0, 5, 0);
            x.company(0, 11, 30);
            x.company(0, 20, 30);
            x.company(1, 20, 30);
            x.company(1, 44, 30);
            x.begin();
            x.mine(0, 2);
            x.pass(4);
            checks.due("its head", 20, x.ofMine(0, 2));
            x.charge(0, charge);
            boolean isCamouflet = charge <= 4;
            checks.due(name("lost by", charge), isCamouflet ? 0 : 20, x.blow(0));
            checks.due("blown", 2, x.ofMine(0, 6));
            checks.due("its charge is told as before", charge, x.ofMine(0, 4));
            checks.due("work", isCamouflet ? 0 : 7, x.ofSquare(20, 2));
            checks.due("guns", isCamouflet ? 0 : 2, x.ofGun(0, 5) + x.ofGun(1, 5));
            checks.due("losses", isCamouflet ? 0 : 10, x.ofSide(0, 9));
            checks.due("losses of the other", isCamouflet ? 0 : 10, x.ofSide(1, 9));
            checks.due("its mouth", 5, x.ofSquare(11, 2));
        }
    }

    /** All squares but camp, gate and the head are WALL, firm 30; those that fell in REACH of the head are counted. */
    private static void fallAround(int wide, int high, int head, int height, int charge, int reach) {
        Siegelines x = Fields.plain(wide, high);
        int last = wide * high - 1;
        for (int square = 1; square < last; square++) {
            x.ground(square, square == head ? height : 3, 0, square == head ? 4 : 1, 30);
        }
        x.stores(1, 999, 99, 0, 100);
        x.company(0, 0, 1);
        x.company(1, head, 1);
        x.begin();
        x.mine(1, 0);
        for (int left = charge; left > 0; left -= 60) {
            x.charge(0, Math.min(60, left));
        }
        x.blow(0);
        for (int square = 1; square < last; square++) {
            int far = Math.max(Math.abs(square % wide - head % wide), Math.abs(square / wide - head / wide));
            int want = square == head ? 7 : far <= reach ? 6 : 1;
            checks.due(name("work of", square, head, charge), want, x.ofSquare(square, 2));
            checks.due(name("firm", square), want == 1 ? 30 : 0, x.ofSquare(square, 3));
        }
    }

    /** "REACH is 0 with a CHARGE below 8, 1 below 24, otherwise 2". */
    private static void reachByCharge() {
        int[] charges = {5, 7, 8, 23, 24, 60, 61, 999};
        int[] reach = {0, 0, 1, 1, 2, 2, 2, 2};
        for (int i = 0; i < charges.length; i++) {
            fallAround(7, 7, 24, 0, charges[i], reach[i]);
            fallAround(7, 7, 24, 2, charges[i], reach[i]);
        }
    }

    /** "But REACH is 1 less (0 at least) for a MINE whose HEAD has a HEIGHT of 3 or more". */
    private static void reachByHeight() {
        int[] charges = {5, 7, 8, 23, 24, 60};
        int[] reach = {0, 0, 0, 0, 1, 1};
        for (int i = 0; i < charges.length; i++) {
            fallAround(7, 7, 24, 3, charges[i], reach[i]);
            fallAround(7, 7, 24, 9, charges[i], reach[i]);
        }
    }

    /** What is FAR REACH or less ends with the map, also at a row's end. */
    private static void reachAtTheEdge() {
        int[] heads = {1, 4, 5, 9, 10, 14, 20, 23};
        for (int head : heads) {
            fallAround(5, 5, head, 0, 8, 1);
            fallAround(5, 5, head, 0, 24, 2);
        }
    }

    /** "Each COMPANY there (of both SIDES) loses a third of its MEN": of 1 and 2 none; "returns how many MEN were lost". */
    private static void thirdOfTheMen() {
        for (int men = 1; men <= 200; men += men < 10 ? 1 : 38) {
            Siegelines x = Fields.plain(9, 5);
            x.ground(20, 0, 0, 5, 0);
            x.stores(0, 99, 99, 0, 60);
            x.company(0, 20, men);
            x.company(1, 21, men);
            x.company(1, 21, 5);
            x.company(1, 22, men);
            x.begin();
            x.mine(0, 0);
            x.charge(0, 8);
            checks.due(name("lost of", men), 2 * (men / 3) + 1, x.blow(0));
            checks.due("of the besiegers", men - men / 3, x.ofCompany(0, 2));
            checks.due("of the garrison", men - men / 3, x.ofCompany(1, 2));
            checks.due("of 5", 4, x.ofCompany(2, 2));
            checks.due("2 far", men, x.ofCompany(3, 2));
            checks.due("losses", men / 3, x.ofSide(0, 9));
            checks.due("losses of the garrison", men / 3 + 1, x.ofSide(1, 9));
        }
    }

    /** "READY GUNS there are DISMOUNTED": of both SIDES, without HITS; those 2 far are not, by a REACH of 1. */
    private static void gunsThatAreReady() {
        Siegelines x = Fields.plain(9, 5);
        x.ground(20, 0, 0, 5, 0);
        x.stores(0, 99, 99, 0, 60);
        int[] squares = {20, 11, 21, 22, 2, 19, 29};
        for (int i = 0; i < squares.length; i++) {
            x.gun(squares[i] == 20 ? 0 : i % 2, squares[i], 1);
        }
        x.company(0, 20, 9);
        x.company(1, 44, 9);
        x.begin();
        x.mine(0, 0);
        x.aim(0, 11);
        x.charge(0, 8);
        x.blow(0);
        int[] states = {1, 1, 1, 0, 0, 1, 1};
        for (int i = 0; i < squares.length; i++) {
            checks.due(name("gun at", squares[i]), states[i], x.ofGun(i, 5));
            checks.due("its hits", 0, x.ofGun(i, 4));
        }
        checks.due("its aim", 11, x.ofGun(0, 6));
    }

    /** "A WALL is less FIRM by 30, and falls with 0 or less (as by SHOTS)". */
    private static void wallsThatFall() {
        int[] firms = {1, 29, 30, 31, 99};
        for (int firm : firms) {
            for (int height = 0; height <= 2; height++) {
                Siegelines x = Fields.plain(9, 5);
                x.ground(21, height, 0, 1, firm);
                digging(x, 0, 20, 0);
                x.charge(0, 8);
                x.blow(0);
                boolean falls = firm <= 30;
                checks.due(name("work", firm, height), falls ? 6 : 1, x.ofSquare(21, 2));
                checks.due("firm", falls ? 0 : firm - 30, x.ofSquare(21, 3));
                checks.due("height", falls ? Math.max(0, height - 1) : height, x.ofSquare(21, 0));
                checks.due("falls", falls ? 1 : 0, x.ofSiege(4));
                checks.due("morale", falls ? 52 : 60, x.ofSide(1, 3));
            }
        }
        int[][] morales = {{7, 0}, {8, 0}, {9, 1}};
        for (int[] morale : morales) {
            Siegelines x = Fields.plain(9, 5);
            x.ground(21, 0, 0, 1, 1);
            x.ground(20, 0, 0, 5, 0);
            x.stores(0, 99, 99, 0, 60);
            x.stores(1, 99, 99, 0, morale[0]);
            x.company(0, 20, 9);
            x.company(1, 44, 9);
            x.begin();
            x.mine(0, 0);
            x.charge(0, 8);
            x.blow(0);
            checks.due(name("morale", morale), morale[1], x.ofSide(1, 3));
        }
    }

    /** A mine of a side whose head is 21, that is blown with 7. */
    private static Siegelines blownBelow(Siegelines x, int side) {
        digging(x, side, 20, 1);
        x.pass(4);
        checks.due("its head", 21, x.ofMine(0, 2));
        x.charge(0, 7);
        x.blow(0);
        return x;
    }

    /** "What is no WALL, BREACH, TOWN or DITCH, nor CAMP or GATE, is a CRATER on the HEAD alone". */
    private static void craterByWork() {
        int[] then = {7, 1, 2, 3, 7, 7, 6, 7};
        for (int side = 0; side <= 1; side++) {
            for (int work = 0; work <= 7; work++) {
                Siegelines x = Fields.plain(9, 5);
                x.ground(21, 1, 0, work, 31);
                blownBelow(x, side);
                checks.due(name("work", side, work), then[work], x.ofSquare(21, 2));
                checks.due("height", then[work] == 7 ? 0 : 1, x.ofSquare(21, 0));
                checks.due("the mouth", side == 0 ? 5 : 4, x.ofSquare(20, 2));
                checks.due("beside it", 0, x.ofSquare(22, 2));
            }
        }
    }

    /** "(HEIGHT 1 less, 0 at least)". */
    private static void craterHeight() {
        for (int height = 0; height <= 9; height++) {
            Siegelines x = Fields.plain(9, 5);
            x.ground(21, height, 1, 0, 0);
            digging(x, 0, 20, 1);
            x.pass(6);
            x.charge(0, 7);
            x.blow(0);
            checks.due("a crater", 7, x.ofSquare(21, 2));
            checks.due(name("height", height), Math.max(0, height - 1), x.ofSquare(21, 0));
            checks.due("soil", 1, x.ofSquare(21, 1));
            checks.due("belongs to nobody", -1, x.ofSquare(21, 7));
        }
    }

    private static void craterNotOnCampOrGate() {
        for (int side = 0; side <= 1; side++) {
            for (int home = 0; home <= 1; home++) {
                Siegelines x = Fields.plain(9, 5);
                x.camp(home == 0 ? 21 : 0, home == 0 ? 44 : 21);
                x.ground(20, 0, 0, side == 0 ? 5 : 4, 0);
                x.ground(21, 4, 0, 0, 0);
                x.stores(side, 99, 99, 0, 60);
                x.company(side, 20, 9);
                x.company(1 - side, 8, 9);
                x.begin();
                x.mine(0, 1);
                x.pass(4);
                x.charge(0, 60);
                x.blow(0);
                checks.due(name("no crater", side, home), 0, x.ofSquare(21, 2));
                checks.due("its height", 4, x.ofSquare(21, 0));
                checks.due("blown", 2, x.ofMine(0, 6));
            }
        }
    }

    /** A mine of the garrison at 22 with a charge; one of the besiegers whose mouth is so far to the left. */
    private static Siegelines against(int apart, int charge, int height) {
        Siegelines x = Fields.plain(9, 5);
        x.ground(22, height, 0, 4, 0);
        x.ground(22 - apart, 0, 0, 5, 0);
        x.stores(0, 99, 999, 0, 60);
        x.stores(1, 99, 999, 0, 60);
        x.company(1, 22, 9);
        x.company(0, 22 - apart, 9);
        x.begin();
        x.mine(0, 0);
        x.mine(1, 0);
        x.charge(0, charge);
        return x;
    }

    /** "With any SQUARE that is FAR REACH (1, for a CAMOUFLET) or less from the HEAD are CRUSHED". */
    private static void crushedByReach() {
        int[] charges = {1, 4, 5, 7, 8, 23, 24, 60};
        int[] low = {1, 1, 0, 0, 1, 1, 2, 2};
        int[] high = {1, 1, 0, 0, 0, 0, 1, 1};
        for (int i = 0; i < charges.length; i++) {
            for (int apart = 1; apart <= 3; apart++) {
                Siegelines x = against(apart, charges[i], 2);
                x.blow(0);
                checks.due(name("low", charges[i], apart), apart <= low[i] ? 3 : 0, x.ofMine(1, 6));
                Siegelines y = against(apart, charges[i], 3);
                y.blow(0);
                checks.due(name("high", charges[i], apart), apart <= high[i] ? 3 : 0, y.ofMine(1, 6));
            }
        }
        for (int hours = 0; hours <= 8; hours += 4) {
            Siegelines x = Fields.plain(9, 5);
            x.ground(22, 0, 0, 4, 0);
            x.ground(25, 0, 0, 5, 0);
            x.stores(1, 99, 999, 0, 60);
            x.company(1, 22, 9);
            x.company(0, 25, 9);
            x.begin();
            x.mine(1, 3);
            if (hours > 0) {
                x.pass(hours);
            }
            x.mine(0, 0);
            x.charge(1, 4);
            x.blow(1);
            checks.due(name("any square counts, after hours", hours), hours == 8 ? 3 : 0, x.ofMine(0, 6));
        }
    }

    /** "That are DUG or STOPPED": what is BLOWN or CRUSHED stays so, and is not spent twice. */
    private static void crushedInEachState() {
        Siegelines x = against(1, 4, 0);
        x.mine(1, 3);
        x.mine(1, 2);
        x.mine(0, 1);
        x.charge(1, 2);
        x.blow(1);
        checks.due("a camouflet of the besiegers crushes both of the garrison", 6, x.ofMine(0, 6) + x.ofMine(4, 6));
        checks.due("the charge of the first is spent", 4, x.ofSide(1, 8));
        x.charge(2, 3);
        x.blow(2);
        checks.due("but not twice", 4, x.ofSide(1, 8));
        x.mine(0, 0);
        x.charge(5, 1);
        x.blow(5);
        checks.due("those that are blown stay so", 4, x.ofMine(1, 6) + x.ofMine(2, 6));
        checks.due("the one that is dug is crushed", 3, x.ofMine(3, 6));
        checks.due("2 and 3 and none", 5, x.ofSide(0, 8));
        checks.due("3 for one of them", 57, x.ofSide(0, 3));
        Siegelines stopped = Fields.plain(9, 5);
        stopped.ground(18, 0, 0, 5, 0);
        stopped.ground(19, 0, 0, 4, 0);
        stopped.stores(1, 99, 99, 0, 60);
        stopped.company(0, 18, 9);
        stopped.company(1, 19, 9);
        stopped.begin();
        stopped.mine(0, 3);
        stopped.mine(1, 0);
        stopped.charge(1, 1);
        stopped.pass(1);
        checks.due("stopped", 1, stopped.ofMine(0, 6));
        stopped.blow(1);
        checks.due("crushed all the same", 3, stopped.ofMine(0, 6));
    }

    /** Besiegers with so many mines at 21, and one of the garrison beside them with a charge of 4. */
    private static Siegelines toBeCrushed(int morale, int mines) {
        Siegelines x = Fields.plain(9, 5);
        x.ground(21, 0, 0, 5, 0);
        x.ground(22, 0, 0, 4, 0);
        x.stores(0, 99, 99, 0, morale);
        x.stores(1, 99, 99, 0, morale);
        x.company(0, 21, 9);
        x.company(1, 22, 9);
        x.begin();
        x.mine(1, 0);
        x.charge(0, 4);
        for (int mine = 0; mine < mines; mine++) {
            x.mine(0, mine % 4);
        }
        return x;
    }

    /** "3 less for the SIDE 0 with each of its MINES that is CRUSHED; .. 0 at least", none for the SIDE 1. */
    private static void crushedAndMorale() {
        int[] morales = {1, 2, 3, 4, 6, 7, 14, 15, 16, 60, 100};
        for (int morale : morales) {
            for (int mines = 0; mines <= 5; mines++) {
                Siegelines x = toBeCrushed(morale, mines);
                x.blow(0);
                int left = Math.max(0, morale - 3 * mines);
                checks.due(name("morale", morale, mines), left, x.ofSide(0, 3));
                checks.due("of the garrison", morale, x.ofSide(1, 3));
                checks.due("whether it is over", left == 0 ? 2 : 1, x.ofSiege(1));
                for (int mine = 1; mine <= mines; mine++) {
                    checks.due("crushed", 3, x.ofMine(mine, 6));
                }
            }
            Siegelines x = toBeCrushed(morale, 1);
            x.charge(1, 1);
            x.blow(1);
            checks.due("a mine of the garrison", 3, x.ofMine(0, 6));
            checks.due("costs it nothing", morale, x.ofSide(1, 3));
        }
    }

    /** "All MINES of the other SIDE": own ones stay, however near. */
    private static void ownMinesStay() {
        int[] charges = {1, 4, 5, 8, 24};
        for (int charge : charges) {
            Siegelines x = toBeCrushed(60, 3);
            x.charge(2, charge);
            x.blow(2);
            checks.due(name("own ones", charge), 0, x.ofMine(1, 6) + x.ofMine(3, 6));
            checks.due("the one that was blown", 2, x.ofMine(2, 6));
            checks.due("morale", 60, x.ofSide(0, 3));
        }
    }

    /** "CHARGES of MINES as they are BLOWN or CRUSHED; CHARGE is told as before". */
    private static void chargesThatAreSpent() {
        Siegelines x = toBeCrushed(60, 3);
        x.charge(1, 20);
        x.charge(2, 1);
        checks.due("nothing is spent yet", 0, x.ofSide(0, 8) + x.ofSide(1, 8));
        checks.due("powder", 78, x.ofSide(0, 0));
        x.blow(0);
        checks.due("crushed: 20 and 1 and none", 21, x.ofSide(0, 8));
        checks.due("blown", 4, x.ofSide(1, 8));
        checks.due("powder stays", 78, x.ofSide(0, 0));
        checks.due("as before", 20, x.ofMine(1, 4));
        checks.due("as before", 1, x.ofMine(2, 4));
        checks.due("none as before", 0, x.ofMine(3, 4));
        checks.due("of the one that was blown", 4, x.ofMine(0, 4));
        checks.holds("sound", x.isSound());
        checks.due("no shots", 0, x.ofSide(0, 7) + x.ofSide(1, 7));
    }

    /** "Each MINE that is BLOWN": LIFTED at once, the CLOCK stays; nothing more is taken. */
    private static void overByAMine() {
        Siegelines x = toBeCrushed(3, 1);
        x.pass(2);
        x.blow(0);
        checks.due("over", 2, x.ofSiege(1));
        checks.due("lifted", -1, x.ofSiege(2));
        checks.due("the clock", 2, x.ofSiege(0));
        checks.refuses("pass", Checks.STATE, x, () -> x.pass(1));
        checks.refuses("blow", Checks.STATE, x, () -> x.blow(0));
        checks.refuses("mine", Checks.STATE, x, () -> x.mine(0, 0));
        Siegelines y = toBeCrushed(4, 1);
        y.blow(0);
        checks.due("with 1 it goes on", 3, y.pass(3));
    }
}

import java.math.BigInteger;

/** Part 8 and the CLOCK: the bounds of hours, forecasts, soundness and the digest; promises 21, 30 and 35 to 37. */
final class HourEdgesTest {
    private static final Checks checks = new Checks("HourEdgesTest");

    public static void main(String[] args) {
        clockUpTo2400();
        hourByHour();
        overWithinAPass();
        overAtTheVeryFirst();
        gunsAheadOfCompanies();
        gunsAheadOfMidnight();
        companiesAheadOfMines();
        minesAheadOfMidnight();
        besiegersAheadOfGarrison();
        lettersBehindBothSides();
        journalOfShots();
        forecastOfEachHour();
        forecastOfFewestAndMost();
        forecastBeyond2400();
        forecastOfTheEnd();
        forecastBehindTheEnd();
        forecastOfLifted();
        forecastOfFalls();
        forecastTakesNothing();
        rowsOfEachSize();
        rowsWithAll();
        soundAtTheBounds();
        digestOfNewObject();
        digestWrapsAround();
        digestOfAll();
        digestTwice();
        lastOf512Calls();
        checks.end();
    }

    private static String name(String what, int... numbers) {
        return what + " " + java.util.Arrays.toString(numbers);
    }

    /** A siege of 49 men each with food for all days. */
    private static Siegelines quiet() {
        Siegelines x = Fields.plain(5, 5);
        x.stores(0, 0, 9999, 0, 60);
        x.stores(1, 0, 9999, 0, 60);
        x.company(0, 0, 49);
        x.company(1, 24, 49);
        x.begin();
        return x;
    }

    /** "The CLOCK tells HOURS, 0 at first, 2400 at most"; "returns the CLOCK then". */
    private static void clockUpTo2400() {
        Siegelines x = quiet();
        checks.due("at first", 0, x.ofSiege(0));
        checks.due("an hour", 1, x.pass(1));
        for (int hours = 49; hours <= 2353; hours += 48) {
            checks.due("48 hours", hours, x.pass(48));
        }
        checks.refuses("48 more", Checks.STATE, x, () -> x.pass(48));
        checks.due("47 more", 2400, x.pass(47));
        checks.refuses("1 more", Checks.STATE, x, () -> x.pass(1));
        checks.refuses("0 more", Checks.ARGUMENT, x, () -> x.pass(0));
        checks.due("the siege goes on", 1, x.ofSiege(1));
        checks.due("100 meals", 9599, x.ofSide(0, 1));
        checks.due("orders are taken", 0, x.order(0, 2, 0));
        checks.due("it is night: a letter", 1, x.letter());
    }

    /** HOURS at once are the same as one by one. */
    private static void hourByHour() {
        int[] hours = {1, 2, 23, 24, 25, 47, 48};
        for (int h : hours) {
            Siegelines once = mustered(h);
            Siegelines each = mustered(h);
            checks.due("the clock", h, once.pass(h));
            for (int hour = 1; hour <= h; hour++) {
                checks.due("the clock", hour, each.pass(1));
            }
            checks.due(name("hours", h), each.digest(), once.digest());
        }
    }

    private static Siegelines mustered(int seed) {
        Siegelines x = new Siegelines();
        x.lay(12, 12, seed);
        x.muster(seed);
        x.begin();
        x.order(0, 1, 1);
        x.order(1, 4, 39);
        x.order(2, 3, 0);
        x.order(3, 2, 0);
        x.order(4, 4, 66);
        x.order(5, 6, 66);
        for (int gun = 0; gun < 3; gun++) {
            x.aim(gun, 52);
            x.aim(gun + 3, 39);
        }
        return x;
    }

    /** "If the siege is over, what is left of that HOUR does not come (the CLOCK stays), and no further HOUR". */
    private static void overWithinAPass() {
        for (int hours = 23; hours <= 48; hours++) {
            Siegelines x = Fields.plain(5, 5);
            x.stores(0, 0, 0, 0, 6);
            x.stores(1, 0, 99, 0, 60);
            x.company(0, 0, 10);
            x.company(1, 24, 49);
            x.begin();
            checks.due(name("the clock", hours), 23, x.pass(hours));
            checks.due("over", hours > 23 ? 2 : 1, x.ofSiege(1));
            checks.due("meals of the garrison", hours > 23 ? 95 : 99, x.ofSide(1, 1));
        }
    }

    private static void overAtTheVeryFirst() {
        Siegelines x = Fields.plain(5, 5);
        x.company(0, 23, 10);
        x.company(1, 12, 10);
        x.begin();
        x.order(0, 5, 24);
        checks.due("the clock stays at 0", 0, x.pass(1));
        checks.due("over", 2, x.ofSiege(1));
        checks.refuses("no hour more", Checks.STATE, x, () -> x.pass(1));
    }

    /** "1 GUNS, 2 COMPANIES act": MEN are hit where they were, and a WALL that falls is stormed in the same HOUR. */
    private static void gunsAheadOfCompanies() {
        Siegelines x = Fields.plain(9, 5);
        x.ground(12, 0, 0, 1, 4);
        x.stores(0, 99, 99, 0, 60);
        x.gun(0, 9, 1);
        x.company(0, 11, 20);
        x.company(1, 44, 20);
        x.begin();
        x.aim(0, 12);
        checks.due("no storm of a wall", -1, x.storm(0, 12));
        x.order(0, 5, 12);
        x.pass(1);
        checks.due("it fell ahead of the storm", 12, x.ofCompany(0, 1));
    }

    /** FIRES by SHOTS of the HOUR of 23 count at its MIDNIGHT: 17 and 4 are above 20. */
    private static void gunsAheadOfMidnight() {
        Siegelines x = Fields.plain(5, 5);
        x.ground(4, 0, 0, 3, 0);
        x.stores(0, 999, 99, 0, 60);
        x.stores(1, 999, 99, 0, 60);
        x.gun(0, 0, 3);
        x.gun(0, 0, 3);
        x.company(0, 0, 9);
        x.company(1, 24, 50);
        x.begin();
        x.pass(13);
        x.aim(0, 4);
        x.pass(10);
        checks.due("fires", 16, x.ofSiege(6));
        x.aim(1, 4);
        x.pass(1);
        checks.due("16 and 1 and 4, halved", 10, x.ofSiege(6));
        checks.due("two are sick", 2, x.ofSide(1, 11));
    }

    /** "2 COMPANIES act, 3 MINES": who leaves the MOUTH in an HOUR does not dig below, who comes does. */
    private static void companiesAheadOfMines() {
        Siegelines x = Fields.plain(9, 5);
        x.ground(20, 0, 0, 5, 0);
        x.company(0, 20, 9);
        x.company(1, 44, 9);
        x.begin();
        x.mine(0, 1);
        x.order(0, 4, 19);
        x.pass(1);
        checks.due("it left", 0, x.ofMine(0, 5));
        x.order(0, 4, 20);
        x.pass(1);
        checks.due("it came", 1, x.ofMine(0, 5));
    }

    private static void minesAheadOfMidnight() {
        Siegelines x = Fields.plain(9, 5);
        x.ground(20, 0, 0, 5, 0);
        x.stores(0, 0, 0, 0, 1);
        x.company(0, 20, 10);
        x.company(1, 44, 9);
        x.begin();
        x.pass(20);
        x.mine(0, 1);
        x.pass(4);
        checks.due("lifted at midnight", 23, x.ofSiege(0));
        checks.due("the mine had this hour, too", 21, x.ofMine(0, 2));
    }

    /** "SIDE 0, then SIDE 1": all of one ahead of all of the other shows where both go hungry. */
    private static void besiegersAheadOfGarrison() {
        Siegelines x = Fields.plain(5, 5);
        x.stores(0, 0, 0, 0, 6);
        x.stores(1, 0, 0, 0, 60);
        x.company(0, 0, 10);
        x.company(1, 24, 50);
        x.begin();
        x.pass(24);
        checks.due("lifted", 2, x.ofSiege(1));
        checks.due("asked at the end of midnight: the garrison went hungry, too", 1, x.ofSide(1, 4));
        checks.due("morale", 54, x.ofSide(1, 3));
        checks.due("sick", 2, x.ofSide(1, 11));
    }

    /** "SIDE 1, then LETTERS, by numbers, then the RELIEF": its 20 of MORALE come behind hunger and deserters. */
    private static void lettersBehindBothSides() {
        Siegelines x = Fields.plain(5, 5);
        x.stores(0, 0, 99, 0, 60);
        x.stores(1, 0, 0, 0, 30);
        x.town(0, 0, 1);
        x.company(0, 0, 9);
        x.company(1, 24, 49);
        x.begin();
        x.letter();
        x.letter();
        x.pass(24);
        checks.due("there", 1, x.ofSiege(9));
        checks.due("30 less 6 and 20", 44, x.ofSide(1, 3));
        checks.due("49 * 16 / 400 deserted", 1, x.ofSide(1, 9));
        Siegelines low = Fields.plain(5, 5);
        low.ground(12, 0, 0, 6, 0);
        low.stores(0, 0, 99, 0, 60);
        low.stores(1, 0, 0, 0, 1);
        low.town(0, 0, 1);
        low.company(0, 0, 9);
        low.company(1, 24, 19);
        low.begin();
        low.letter();
        low.letter();
        low.pass(24);
        checks.due("never below 0 ahead of the 20", 20, low.ofSide(1, 3));
    }

    /** "The JOURNAL counts for each SIDE: SHOTS, POWDER that was spent": by each CALIBRE. */
    private static void journalOfShots() {
        for (int side = 0; side <= 1; side++) {
            for (int calibre = 1; calibre <= 3; calibre++) {
                Siegelines x = Fields.plain(9, 5);
                x.stores(side, 999, 99, 0, 60);
                x.gun(side, 9, calibre);
                x.company(0, 0, 9);
                x.company(1, 44, 9);
                x.begin();
                x.aim(0, 12);
                int[] shots = {4, 7, 9, 10, 11};
                for (int s : shots) {
                    x.pass(1);
                    checks.due(name("shots", side, calibre), s, x.ofSide(side, 7));
                    checks.due("spent", s * calibre, x.ofSide(side, 8));
                    checks.due("powder", 999 - s * calibre, x.ofSide(side, 0));
                    checks.due("none of the other", 0, x.ofSide(1 - side, 7) + x.ofSide(1 - side, 8));
                }
            }
        }
    }

    /** "Behind these, if nothing was told in between": each of 1 to 48 HOURS. */
    private static void forecastOfEachHour() {
        for (int seed = 0; seed < 100; seed += 9) {
            Siegelines asked = mustered(seed);
            Siegelines x = mustered(seed);
            int[][] told = new int[49][5];
            for (int hours = 1; hours <= 48; hours++) {
                for (int what = 0; what <= 4; what++) {
                    told[hours][what] = asked.forecast(hours, what);
                }
            }
            for (int hours = 1; hours <= 48 && x.ofSiege(1) == 1; hours++) {
                x.pass(1);
                boolean isOver = x.ofSiege(1) == 2;
                String name = name("forecast by seed, hours", seed, hours);
                checks.due(name + " clock", isOver ? x.ofSiege(0) : -1, told[hours][0]);
                checks.due(name + " honours", x.ofSiege(2), told[hours][1]);
                checks.due(name + " besiegers", x.ofSide(0, 5), told[hours][2]);
                checks.due(name + " garrison", x.ofSide(1, 5), told[hours][3]);
                checks.due(name + " falls", x.ofSiege(4), told[hours][4]);
            }
        }
    }

    private static void forecastOfFewestAndMost() {
        Siegelines x = quiet();
        int[] hours = {1, 48};
        for (int h : hours) {
            int[] want = {-1, -1, 49, 49, 0};
            for (int what = 0; what <= 4; what++) {
                checks.due(name("forecast", h, what), want[what], x.forecast(h, what));
            }
        }
    }

    /** "(Also above 2400)". */
    private static void forecastBeyond2400() {
        for (int early = 0; early <= 1; early++) {
            Siegelines x = Fields.plain(5, 5);
            x.stores(0, 0, 100, 0, 6);
            x.stores(1, 0, 9999, 0, 60);
            x.company(0, 0, 10);
            x.company(1, 24, 49);
            x.begin();
            for (int day = 0; day < 50; day++) {
                x.pass(day == 49 ? 48 - early : 48);
            }
            checks.due("the clock", 2400 - early, x.ofSiege(0));
            checks.due("over above 2400", 2423, x.forecast(24 + early, 0));
            checks.due("not ahead of that", -1, x.forecast(23 + early, 0));
            checks.due("lifted", -1, x.forecast(48, 1));
            checks.due("men, of whom one deserts", 9, x.forecast(48, 2));
        }
    }

    /** "0 the CLOCK at which the siege would be over, 1 HONOURS then". */
    private static void forecastOfTheEnd() {
        Siegelines x = Fields.plain(5, 5);
        x.company(0, 22, 10);
        x.company(1, 12, 10);
        x.begin();
        x.order(0, 4, 23);
        checks.due("not over", -1, x.forecast(48, 0));
        x.pass(1);
        x.order(0, 5, 24);
        for (int hours = 1; hours <= 48; hours += 47) {
            checks.due("over at once", 1, x.forecast(hours, 0));
            checks.due("with honours of 0", 0, x.forecast(hours, 1));
            checks.due("men", 10, x.forecast(hours, 2));
            checks.due("men of the garrison", 10, x.forecast(hours, 3));
            checks.due("falls", 0, x.forecast(hours, 4));
        }
        checks.due("it is not over now", 1, x.ofSiege(1));
        checks.due("nor on gate", 23, x.ofCompany(0, 1));
    }

    /** "And no further HOUR": guns that would fire in the next one do not, neither in a forecast nor in a pass. */
    private static void forecastBehindTheEnd() {
        Siegelines x = Fields.plain(9, 5);
        x.ground(20, 0, 0, 1, 5);
        x.stores(0, 999, 99, 0, 60);
        x.town(100, 0, 10);
        x.gun(0, 9, 1);
        x.gun(0, 18, 1);
        x.company(0, 43, 10);
        x.company(1, 12, 100);
        x.begin();
        x.aim(0, 12);
        x.aim(1, 20);
        x.order(0, 5, 44);
        for (int hours = 1; hours <= 48; hours += 47) {
            int[] want = {0, 0, 10, 88, 0};
            for (int what = 0; what <= 4; what++) {
                checks.due(name("forecast behind the end", hours, what), want[what], x.forecast(hours, what));
            }
        }
        checks.due("the clock", 0, x.pass(48));
        checks.due("men of the garrison", 88, x.ofSide(1, 5));
        checks.due("no fall", 0, x.ofSiege(4));
        checks.due("shots", 8, x.ofSide(0, 7));
        checks.due("people are halved once", 50, x.ofSiege(5));
    }

    private static void forecastOfLifted() {
        Siegelines x = Fields.plain(5, 5);
        x.stores(0, 0, 0, 0, 6);
        x.company(0, 0, 10);
        x.company(1, 24, 9);
        x.begin();
        checks.due("23 hours on it goes on", -1, x.forecast(23, 0));
        checks.due("24 hours on it is over", 23, x.forecast(24, 0));
        checks.due("lifted", -1, x.forecast(24, 1));
    }

    /** "4 FALLS": those that were and those that come. */
    private static void forecastOfFalls() {
        Siegelines x = Fields.plain(9, 5);
        x.ground(12, 0, 0, 1, 4);
        x.ground(11, 0, 0, 1, 7);
        x.stores(0, 99, 99, 0, 60);
        x.gun(0, 9, 1);
        x.company(0, 0, 9);
        x.company(1, 44, 9);
        x.begin();
        x.aim(0, 11);
        for (int hours = 1; hours <= 3; hours++) {
            checks.due(name("falls", hours), hours == 1 ? 0 : 1, x.forecast(hours, 4));
        }
        x.pass(2);
        checks.due("one fell", 1, x.ofSiege(4));
        x.aim(0, 12);
        checks.due("2 are not enough", 1, x.forecast(1, 4));
        checks.due("two fell then", 2, x.forecast(3, 4));
    }

    /** "What would be (nothing is changed)". */
    private static void forecastTakesNothing() {
        Siegelines asked = mustered(12);
        Siegelines left = mustered(12);
        for (int day = 0; day < 4; day++) {
            for (int hours = 1; hours <= 48; hours += 47) {
                long before = asked.digest();
                for (int what = 0; what <= 4; what++) {
                    asked.forecast(hours, what);
                }
                checks.due("as before", before, asked.digest());
            }
            asked.pass(20);
            left.pass(20);
            checks.due("as one that was not asked", left.digest(), asked.digest());
        }
    }

    /** "Returns its SQUARES from the left on": WIDE signs, HIGH rows. */
    private static void rowsOfEachSize() {
        for (int wide = 5; wide <= 12; wide++) {
            for (int high = 5; high <= 12; high++) {
                Siegelines x = Fields.plain(wide, high);
                for (int row = 0; row < high; row++) {
                    checks.due(name("signs", wide, high, row), wide, x.row(row).length());
                }
                int past = high;
                checks.refuses("the row behind the last", Checks.INDEX, x, () -> x.row(past).length());
                checks.refuses("the row ahead of the first", Checks.INDEX, x, () -> x.row(-1).length());
            }
        }
    }

    /** "o" of the SIDE 0, "x" of the SIDE 1, "*" of both, whatever the WORK; otherwise the sign of the WORK. */
    private static void rowsWithAll() {
        String signs = ".#~Tc=/u";
        for (int work = 0; work <= 7; work++) {
            for (int companies = 0; companies <= 3; companies++) {
                boolean isNobodys = work == 0 || work == 2 || work >= 6;
                boolean isGarrisons = work == 1 || work == 3 || work == 4;
                if (!isNobodys && companies == 3 || isGarrisons && companies == 1 || work == 5 && companies == 2) {
                    continue;
                }
                Siegelines x = Fields.plain(5, 5);
                x.ground(12, 0, 0, work, 9);
                if (companies % 2 == 1) {
                    x.company(0, 12, 1);
                }
                if (companies >= 2) {
                    x.company(1, 12, 1);
                    x.company(1, 12, 1);
                }
                char sign = companies == 0 ? signs.charAt(work) : "ox*".charAt(companies - 1);
                checks.due(name("row", work, companies), ".." + sign + "..", x.row(2));
            }
        }
    }

    /** "True in the SETTING", and at all bounds of what can be told. */
    private static void soundAtTheBounds() {
        checks.holds("a new object", new Siegelines().isSound());
        Siegelines x = Boards.map();
        checks.holds("a map", x.isSound());
        x.stores(0, 9999, 9999, 999, 100);
        x.stores(1, 0, 0, 0, 1);
        x.company(0, 1, 200);
        x.company(1, 2, 1);
        checks.holds("in the setting", x.isSound());
        x.stores(0, 1, 9999, 999, 100);
        x.begin();
        checks.holds("as it begins", x.isSound());
        checks.holds("the siege", Boards.siege().isSound());
        checks.holds("behind mines", Boards.afterBlow().isSound());
        checks.holds("at the end", Boards.over().isSound());
        Siegelines gate = Fields.plain(5, 5);
        gate.ground(24, 0, 0, 3, 0);
        checks.holds("gate in a town", gate.isSound());
        gate.ground(24, 0, 0, 4, 0);
        checks.holds("gate in a cover", gate.isSound());
    }

    private static final class Sum {
        private BigInteger d = BigInteger.valueOf(58263);

        void add(long v) {
            d = d.multiply(BigInteger.valueOf(31)).add(BigInteger.valueOf(v));
        }

        /** "Which wraps around as a 64-bit integer". */
        long wrapped() {
            return d.longValue();
        }

        boolean isGreat() {
            return d.bitLength() > 64;
        }
    }

    private static void digestOfNewObject() {
        Sum sum = new Sum();
        int[] siege = {0, 0, -1, 0, 0, 0, 0, 0, 10, 0, 0, 0, 0};
        int[] side = {0, 0, 0, 60, 0, 0, 0, 0, 0, 0, 0, 0, 0};
        for (int v : siege) {
            sum.add(v);
        }
        for (int s = 0; s <= 1; s++) {
            for (int v : side) {
                sum.add(v);
            }
        }
        sum.add(1);
        checks.holds("it wraps around", sum.isGreat());
        checks.due("of a new object", sum.wrapped(), new Siegelines().digest());
    }

    private static Sum sumOf(Siegelines x, int squares, int guns, int companies, int mines) {
        Sum sum = new Sum();
        for (int what = 0; what <= 12; what++) {
            sum.add(x.ofSiege(what));
        }
        for (int side = 0; side <= 1; side++) {
            for (int what = 0; what <= 12; what++) {
                sum.add(x.ofSide(side, what));
            }
        }
        addAll(sum, x, "ofSquare", squares, 2, 3, 4, 5);
        addAll(sum, x, "ofGun", guns, 1, 3, 4, 5, 6, 7);
        addAll(sum, x, "ofCompany", companies, 1, 2, 3, 4, 5, 6);
        addAll(sum, x, "ofMine", mines, 2, 4, 5, 6, 7, 8);
        sum.add(x.isSound() ? 1 : 0);
        return sum;
    }

    private static void addAll(Sum sum, Siegelines x, String call, int count, int... facts) {
        for (int number = 0; number < count; number++) {
            for (int what : facts) {
                sum.add(Long.parseLong(Calls.answer(x, call, number, what)));
            }
        }
    }

    private static void digestWrapsAround() {
        int[][] sizes = {{5, 5}, {12, 5}, {5, 12}, {9, 9}};
        for (int[] size : sizes) {
            Siegelines x = new Siegelines();
            x.lay(size[0], size[1], 77);
            Sum sum = sumOf(x, size[0] * size[1], 0, 0, 0);
            checks.due(name("of a map", size), sum.wrapped(), x.digest());
        }
    }

    /** With guns, companies and mines in all their states. */
    private static void digestOfAll() {
        Siegelines[] objects = {Boards.map(), Boards.placed(), Boards.siege(), Boards.afterBlow(), Boards.over()};
        int[][] counts = {{30, 0, 0, 0}, {30, 5, 6, 0}, {30, 5, 6, 3}, {30, 5, 6, 3}, {30, 5, 6, 3}};
        for (int i = 0; i < objects.length; i++) {
            int[] c = counts[i];
            checks.due("of object " + i, sumOf(objects[i], c[0], c[1], c[2], c[3]).wrapped(), objects[i].digest());
        }
        checks.due("of all that there can be", sumOf(FullFieldTest.field(), 30, 16, 12, 6).wrapped(),
                FullFieldTest.field().digest());
    }

    private static void digestTwice() {
        Siegelines x = Boards.siege();
        checks.due("asked twice", x.digest(), x.digest());
        checks.due("of the same calls", Boards.siege().digest(), x.digest());
        Siegelines y = Boards.siege();
        y.pass(1);
        checks.fails("another one an hour later", y.digest() == x.digest());
    }

    /** "An object is used for at most 512 calls after it has been made": the 512th is answered as the first ones are. */
    private static void lastOf512Calls() {
        Siegelines hours = quiet();
        // quiet() makes six calls.
        for (int call = 7; call <= 512; call++) {
            checks.due(name("call", call), call - 6, hours.pass(1));
        }
        Siegelines asked = Boards.map();
        // map() makes eight.
        for (int call = 9; call <= 511; call++) {
            Calls.answer(asked, call % 2 == 0 ? "lay" : "ground", 13, call, call, call, call);
        }
        checks.due("behind 503 refused calls", Boards.map().digest(), asked.digest());
        Siegelines laid = new Siegelines();
        for (int call = 1; call <= 511; call++) {
            laid.lay(5 + call % 8, 5 + call % 7, call % 101);
        }
        checks.due("the 512th map", 0, laid.lay(6, 5, 100));
        Siegelines parted = quiet();
        for (int call = 7; call <= 511; call++) {
            parted.forecast(1 + call % 48, call % 5);
        }
        checks.due("behind 505 forecasts", 48, parted.pass(48));
    }
}

/** Part 7: the bounds of letters, of the relief, of depth and of terms; promises 18 to 20 and 29. */
final class TermsEdgesTest {
    private static final Checks checks = new Checks("TermsEdgesTest");

    public static void main(String[] args) {
        lettersByHour();
        lettersOfEachDay();
        sixLetters();
        throughByGuards();
        caughtWithFourDays();
        guardsTooTired();
        laterLetters();
        setOutByTheFirst();
        daysDownToNone();
        daysOfMost();
        thereAtOnce();
        lettersBehindTheRelief();
        depthOfNothing();
        depthByFarTrench();
        depthByTouchedDitch();
        depthByBreach();
        depthByThoseWhoStand();
        depthInTheTown();
        greatestDepth();
        termsByMorale();
        termsByHunger();
        termsByLetterAndRelief();
        honoursByDepth();
        refusedParley();
        lastOfTheGarrison();
        lastOfTheBesiegers();
        bothAtOnce();
        askedInOrder();
        checks.end();
    }

    private static String name(String what, int... numbers) {
        return what + " " + java.util.Arrays.toString(numbers);
    }

    /** So many companies of nine besiegers on camp, one of the garrison on gate, food for all, DAYS. */
    private static Siegelines camps(int companies, int days) {
        Siegelines x = Fields.plain(5, 5);
        x.stores(0, 0, 999, 0, 60);
        x.stores(1, 0, 999, 0, 60);
        x.town(0, 0, days);
        for (int company = 0; company < companies; company++) {
            x.company(0, 0, 9);
        }
        x.company(1, 24, 9);
        x.begin();
        return x;
    }

    /** "Or 6 were sent", "it is not NIGHT": each hour of a day; "returns how many LETTERS were sent". */
    private static void lettersByHour() {
        for (int hour = 0; hour <= 24; hour++) {
            Siegelines x = camps(1, 10);
            if (hour > 0) {
                x.pass(hour);
            }
            if (hour % 24 >= 20 || hour % 24 <= 4) {
                checks.due(name("a letter at hour", hour), 1, x.letter());
                checks.due("the second", 2, x.letter());
            } else {
                checks.refuses(name("a letter at hour", hour), Checks.STATE, x, () -> x.letter());
            }
        }
    }

    /** "It has 1 at its first MIDNIGHT": one that is sent at 23 as well as one that is sent at 0. */
    private static void lettersOfEachDay() {
        int[] hours = {0, 4, 20, 23};
        for (int hour : hours) {
            Siegelines x = camps(1, 10);
            if (hour > 0) {
                x.pass(hour);
            }
            x.letter();
            if (hour < 23) {
                x.pass(23 - hour);
            }
            checks.due(name("not ahead of midnight, sent at", hour), 0, x.ofSiege(7));
            x.pass(1);
            checks.due(name("through at midnight, sent at", hour), 1, x.ofSiege(7));
        }
    }

    private static void sixLetters() {
        Siegelines x = camps(1, 40);
        for (int sent = 1; sent <= 6; sent++) {
            checks.due("sent", sent, x.letter());
        }
        checks.refuses("a seventh", Checks.STATE, x, () -> x.letter());
        checks.due("none is through", 0, x.ofSiege(7));
        x.pass(24);
        checks.due("all are", 6, x.ofSiege(7));
        checks.due("5 of them took a day", 35, x.ofSiege(8));
        checks.refuses("a seventh the next day", Checks.STATE, x, () -> x.letter());
    }

    /** "Is through, if fewer COMPANIES of the SIDE 0 are at GUARD than it has DAYS out": 0 to 11 of them. */
    private static void throughByGuards() {
        for (int guards = 0; guards <= 11; guards++) {
            Siegelines x = camps(11, 40);
            for (int company = 0; company < guards; company++) {
                x.order(company, 2, 0);
            }
            x.letter();
            for (int day = 1; day <= 6; day++) {
                x.pass(24);
                checks.due(name("guards, day", guards, day), guards < 4 && day > guards ? 1 : 0, x.ofSiege(7));
            }
        }
    }

    /** "With 4 DAYS, and not through, it is CAUGHT": guards that go behind that do not help it, ahead of that they do. */
    private static void caughtWithFourDays() {
        for (int days = 3; days <= 4; days++) {
            Siegelines x = camps(4, 40);
            for (int company = 0; company < 4; company++) {
                x.order(company, 2, 0);
            }
            x.letter();
            x.pass(24);
            x.pass(48);
            if (days == 4) {
                x.pass(24);
            }
            checks.due(name("not through with days", days), 0, x.ofSiege(7));
            x.order(0, 0, 0);
            x.pass(24);
            checks.due(name("then three guards", days), days == 3 ? 1 : 0, x.ofSiege(7));
            checks.due("it was sent", 2, x.letter());
        }
    }

    /** "GUARD of a COMPANY with TIRED of 10 or more does not count". */
    private static void guardsTooTired() {
        Siegelines x = camps(1, 40);
        x.pass(12);
        x.order(0, 3, 0);
        x.pass(10);
        checks.due("tired of 10 at 22", 10, x.ofCompany(0, 3));
        x.letter();
        x.order(0, 2, 0);
        x.pass(2);
        checks.due("7 at midnight", 7, x.ofCompany(0, 3));
        checks.due("a guard again", 0, x.ofSiege(7));
        Siegelines y = Fields.plain(9, 5);
        y.stores(0, 99, 999, 0, 60);
        y.stores(1, 99, 999, 0, 60);
        y.gun(0, 12, 1);
        for (int gun = 0; gun < 3; gun++) {
            y.gun(1, 15, 1);
        }
        y.company(0, 12, 200);
        y.company(1, 44, 9);
        y.begin();
        for (int gun = 1; gun <= 3; gun++) {
            y.aim(gun, 12);
        }
        y.pass(1);
        for (int gun = 1; gun <= 3; gun++) {
            y.aim(gun, -1);
        }
        y.pass(15);
        y.order(0, 3, 0);
        y.pass(7);
        checks.due("tired of 7 at 23", 7, y.ofCompany(0, 3));
        y.letter();
        y.order(0, 2, 0);
        checks.due("by setting a gun right 11", 11, y.right(0));
        y.pass(1);
        checks.due("it rests: 9 at midnight, and counts", 0, y.ofSiege(7));
    }

    /** "Each later one makes DAYS 1 less", besides the one of each MIDNIGHT. */
    private static void laterLetters() {
        for (int letters = 0; letters <= 6; letters++) {
            Siegelines x = camps(1, 9);
            for (int sent = 0; sent < letters; sent++) {
                x.letter();
            }
            x.pass(24);
            checks.due(name("through", letters), letters, x.ofSiege(7));
            checks.due(name("days", letters), letters > 0 ? 10 - letters : 9, x.ofSiege(8));
            x.pass(24);
            checks.due(name("days then", letters), letters > 0 ? 9 - letters : 9, x.ofSiege(8));
        }
    }

    /** "At each MIDNIGHT behind the one at which it was set out DAYS are 1 less": not at that one, not ahead of it. */
    private static void setOutByTheFirst() {
        Siegelines x = camps(1, 5);
        x.pass(48);
        checks.due("without a letter", 5, x.ofSiege(8));
        x.order(0, 2, 0);
        x.letter();
        x.pass(24);
        checks.due("with one that is out", 5, x.ofSiege(8));
        x.pass(24);
        checks.due("set out", 1, x.ofSiege(7));
        checks.due("at that midnight", 5, x.ofSiege(8));
        for (int days = 4; days >= 1; days--) {
            x.pass(24);
            checks.due("1 less", days, x.ofSiege(8));
            checks.due("not there", 0, x.ofSiege(9));
        }
        x.pass(24);
        checks.due("none", 0, x.ofSiege(8));
        checks.due("there", 1, x.ofSiege(9));
    }

    /** "DAYS are never below 0", whatever comes behind. */
    private static void daysDownToNone() {
        Siegelines x = camps(1, 1);
        x.letter();
        x.pass(24);
        checks.due("set out with 1", 1, x.ofSiege(8));
        checks.due("not there", 0, x.ofSiege(9));
        for (int day = 0; day < 4; day++) {
            x.letter();
            x.pass(24);
            checks.due(name("none", day), 0, x.ofSiege(8));
            checks.due("there", 1, x.ofSiege(9));
            checks.due("through", 2 + day, x.ofSiege(7));
        }
    }

    private static void daysOfMost() {
        Siegelines x = camps(1, 40);
        x.letter();
        x.pass(24);
        for (int day = 1; day <= 40; day++) {
            x.pass(24);
            checks.due(name("days", day), 40 - day, x.ofSiege(8));
            checks.due("there", day == 40 ? 1 : 0, x.ofSiege(9));
        }
        checks.due("40 days and 1", 984, x.ofSiege(0));
    }

    /** "Once it is set out, and DAYS are 0 behind all this at a MIDNIGHT, it is THERE": by later LETTERS at once. */
    private static void thereAtOnce() {
        for (int days = 1; days <= 6; days++) {
            Siegelines x = camps(1, days);
            for (int sent = 0; sent < 6; sent++) {
                x.letter();
            }
            x.pass(24);
            checks.due(name("days left of", days), Math.max(0, days - 5), x.ofSiege(8));
            checks.due(name("there", days), days <= 5 ? 1 : 0, x.ofSiege(9));
            checks.due("morale", days <= 5 ? 80 : 60, x.ofSide(1, 3));
        }
    }

    private static void lettersBehindTheRelief() {
        Siegelines x = camps(1, 1);
        x.letter();
        x.pass(48);
        checks.due("there", 1, x.ofSiege(9));
        checks.due("a letter all the same", 2, x.letter());
        x.pass(24);
        checks.due("it is through", 2, x.ofSiege(7));
        checks.due("once", 80, x.ofSide(1, 3));
    }

    /** "0" on a plain, with a WALL or DITCH and no TRENCH, with a TRENCH and no WALL. */
    private static void depthOfNothing() {
        checks.due("a new object", 0, new Siegelines().ofSiege(3));
        checks.due("a plain", 0, Fields.plain(5, 5).ofSiege(3));
        for (int work = 0; work <= 7; work++) {
            Siegelines x = Fields.plain(5, 5);
            x.ground(12, 0, 0, work, 9);
            checks.due("work " + work + " alone", work == 6 ? 3 : 0, x.ofSiege(3));
        }
        Siegelines fort = new Siegelines();
        fort.lay(12, 12, 0);
        checks.due("a fort", 0, fort.ofSiege(3));
    }

    /** "1, if a TRENCH is FAR 3 or less from a WALL or BREACH": from each square of the map, over a row's end, too. */
    private static void depthByFarTrench() {
        for (int trench = 1; trench < 59; trench++) {
            if (trench != 30) {
                Siegelines x = Fields.plain(12, 5);
                x.ground(30, 0, 0, 1, 9);
                x.ground(trench, 0, 0, 5, 0);
                int far = Math.max(Math.abs(trench % 12 - 6), Math.abs(trench / 12 - 2));
                checks.due(name("a trench at", trench), far <= 3 ? 1 : 0, x.ofSiege(3));
                x.ground(30, 0, 0, 3, 9);
                checks.due("a town is no wall", 0, x.ofSiege(3));
            }
        }
    }

    /** "2, if a TRENCH TOUCHES a DITCH": not aslant, not over a row's end. */
    private static void depthByTouchedDitch() {
        int[] ditches = {12, 9, 10};
        for (int ditch : ditches) {
            for (int trench = 1; trench < 24; trench++) {
                if (trench != ditch) {
                    Siegelines x = Fields.plain(5, 5);
                    x.ground(ditch, 0, 0, 2, 0);
                    x.ground(trench, 0, 0, 5, 0);
                    boolean touches = Math.abs(trench % 5 - ditch % 5) + Math.abs(trench / 5 - ditch / 5) == 1;
                    checks.due(name("ditch, trench", ditch, trench), touches ? 2 : 0, x.ofSiege(3));
                }
            }
        }
    }

    private static void depthByBreach() {
        Siegelines x = Fields.plain(12, 12);
        x.ground(142, 0, 0, 6, 0);
        checks.due("a breach", 3, x.ofSiege(3));
        x.company(0, 0, 200);
        checks.due("far from all", 3, x.ofSiege(3));
        x.company(1, 141, 200);
        checks.due("beside the garrison", 3, x.ofSiege(3));
    }

    /** "4, if a BREACH TOUCHES a SQUARE on which a COMPANY of the SIDE 0 stands, or one stands on it". */
    private static void depthByThoseWhoStand() {
        int[] breaches = {12, 9, 10};
        for (int breach : breaches) {
            for (int square = 0; square < 24; square++) {
                for (int side = 0; side <= 1; side++) {
                    Siegelines x = Fields.plain(5, 5);
                    x.ground(breach, 0, 0, 6, 0);
                    if (side == 0 || square > 0) {
                        x.company(side, square, 1);
                        int apart = Math.abs(square % 5 - breach % 5) + Math.abs(square / 5 - breach / 5);
                        checks.due(name("breach, company", breach, square, side), side == 0 && apart <= 1 ? 4 : 3,
                                x.ofSiege(3));
                    }
                }
            }
        }
        Siegelines gone = Fields.plain(5, 5);
        gone.ground(12, 0, 0, 6, 0);
        gone.company(0, 12, 1);
        gone.company(1, 13, 100);
        gone.company(0, 0, 9);
        gone.begin();
        checks.due("one man on it", 4, gone.ofSiege(3));
        gone.order(0, 5, 13);
        gone.pass(1);
        checks.due("gone upon it", 3, gone.ofSiege(3));
        Siegelines beside = Fields.plain(5, 5);
        beside.ground(7, 0, 0, 6, 0);
        beside.company(0, 12, 1);
        beside.company(1, 13, 100);
        beside.company(0, 0, 9);
        beside.begin();
        checks.due("one man beside it", 4, beside.ofSiege(3));
        beside.order(0, 5, 13);
        beside.pass(1);
        checks.due("gone beside it", 3, beside.ofSiege(3));
    }

    /** "5, if one stands in the TOWN": of the SIDE 0, not beside it. */
    private static void depthInTheTown() {
        Siegelines x = Fields.plain(5, 5);
        x.ground(12, 0, 0, 3, 0);
        x.company(0, 11, 100);
        x.company(1, 13, 9);
        x.begin();
        checks.due("beside it", 0, x.ofSiege(3));
        x.order(1, 4, 12);
        x.pass(1);
        checks.due("the garrison in it", 0, x.ofSiege(3));
        x.order(1, 4, 13);
        x.pass(1);
        x.order(0, 5, 12);
        x.pass(1);
        checks.due("in it", 5, x.ofSiege(3));
        checks.due("a cover is no town", 0, inCover());
    }

    private static int inCover() {
        Siegelines x = Fields.plain(5, 5);
        x.ground(12, 0, 0, 4, 0);
        x.company(0, 11, 100);
        x.company(1, 24, 9);
        x.begin();
        x.order(0, 5, 12);
        x.pass(1);
        return x.ofSiege(3);
    }

    /** "The greatest number that holds": with all that is less, too. */
    private static void greatestDepth() {
        Siegelines x = Fields.plain(9, 9);
        x.ground(40, 0, 0, 1, 9);
        x.ground(37, 0, 0, 5, 0);
        checks.due("1", 1, x.ofSiege(3));
        x.ground(38, 0, 0, 2, 0);
        checks.due("2", 2, x.ofSiege(3));
        x.ground(60, 0, 0, 6, 0);
        checks.due("3", 3, x.ofSiege(3));
        x.ground(70, 0, 0, 3, 0);
        x.company(0, 61, 100);
        x.company(1, 80, 9);
        checks.due("4", 4, x.ofSiege(3));
        x.begin();
        x.order(0, 5, 70);
        x.pass(1);
        checks.due("5", 5, x.ofSiege(3));
        x.order(0, 5, 61);
        x.pass(1);
        checks.due("4 again", 4, x.ofSiege(3));
    }

    /** A siege of this DEPTH (0 to 4) at its begin, with this morale of the garrison; nobody has food. */
    private static Siegelines atDepth(int depth, int morale, int men) {
        Siegelines x = Fields.plain(9, 9);
        x.ground(40, 0, 0, depth == 1 || depth == 2 ? 1 : 0, 9);
        x.ground(37, 0, 0, depth == 1 || depth == 2 ? 5 : 0, 0);
        x.ground(38, 0, 0, depth == 2 ? 2 : 0, 0);
        x.ground(60, 0, 0, depth >= 3 ? 6 : 0, 0);
        x.ground(1, 0, 0, depth == 5 ? 3 : 0, 0);
        x.stores(0, 0, 999, 0, 100);
        x.stores(1, 0, 0, 0, morale);
        x.company(0, depth == 4 ? 61 : 0, 1);
        x.company(1, 80, men);
        x.begin();
        if (depth == 5) {
            x.order(0, 5, 1);
            x.pass(1);
        }
        checks.due("depth", depth, x.ofSiege(3));
        return x;
    }

    /** "20 * DEPTH and 100 - MORALE .. are 120 or more": with each MORALE. */
    private static void termsByMorale() {
        for (int depth = 0; depth <= 5; depth++) {
            for (int morale = 1; morale <= 100; morale++) {
                Siegelines x = atDepth(depth, morale, 1);
                boolean givesUp = 20 * depth + 100 - morale >= 120;
                checks.due(name("depth, morale", depth, morale), givesUp ? 1 : 0, x.parley() ? 1 : 0);
                checks.due("the siege", givesUp ? 2 : 1, x.ofSiege(1));
            }
        }
    }

    /** "10 * HUNGER of it (30 at most)": of 2, 3 and 4 days. */
    private static void termsByHunger() {
        int[] weights = {0, 10, 20, 30, 30, 30};
        for (int days = 1; days <= 5; days++) {
            int[] morales = {90, 79, 80, 81, 82, 83, 84};
            for (int morale : morales) {
                Siegelines x = atDepth(3, morale, 10);
                for (int day = 0; day < days; day++) {
                    x.pass(24);
                }
                // 6 for each hungry day and 1 for the breach.
                int then = morale - 7 * days;
                checks.due("hunger", days, x.ofSide(1, 4));
                checks.due("morale", then, x.ofSide(1, 3));
                int sum = 60 + 100 - then + weights[days];
                checks.due(name("days, morale", days, morale, sum), sum >= 120 ? 1 : 0, x.parley() ? 1 : 0);
            }
        }
        for (int days = 2; days <= 5; days++) {
            for (int sum = 119; sum <= 120; sum++) {
                int morale = 160 + weights[days] - sum + 7 * days;
                if (morale <= 100) {
                    Siegelines x = atDepth(3, morale, 10);
                    for (int day = 0; day < days; day++) {
                        x.pass(24);
                    }
                    checks.due(name("days, sum", days, sum), sum == 120 ? 1 : 0, x.parley() ? 1 : 0);
                }
            }
        }
    }

    /** "Less 40, if the RELIEF is THERE, or less 20, if a LETTER is through": one that is out does not count. */
    private static void termsByLetterAndRelief() {
        for (int kind = 0; kind <= 2; kind++) {
            for (int morale = 1; morale <= 60; morale++) {
                Siegelines x = Fields.plain(9, 9);
                x.ground(60, 0, 0, 6, 0);
                x.stores(0, 0, 999, 0, 100);
                x.stores(1, 0, 999, 0, morale);
                x.town(0, 0, 1);
                x.company(0, 61, 9);
                x.company(1, 80, 9);
                x.begin();
                x.letter();
                for (int day = 0; day < kind; day++) {
                    x.pass(24);
                }
                checks.due("a letter is through", kind > 0 ? 1 : 0, x.ofSiege(7));
                checks.due("the relief is there", kind == 2 ? 1 : 0, x.ofSiege(9));
                int sum = 80 + 100 - x.ofSide(1, 3) - (kind == 2 ? 40 : kind == 1 ? 20 : 0);
                checks.due(name("kind, morale, sum", kind, morale, sum), sum >= 120 ? 1 : 0, x.parley() ? 1 : 0);
            }
        }
    }

    /** "HONOURS are 3 with a DEPTH of 2 or less, 2 with 3, 1 with 4, 0 with 5". */
    private static void honoursByDepth() {
        int[] honours = {3, 3, 3, 2, 1, 0};
        for (int depth = 0; depth <= 5; depth++) {
            Siegelines x = atDepth(depth, 1, 40);
            checks.due("not over", -1, x.ofSiege(2));
            x.pass(48);
            checks.due("no morale", 0, x.ofSide(1, 3));
            checks.due("two hungry days", 2, x.ofSide(1, 4));
            int clock = x.ofSiege(0);
            checks.holds(name("gives up at", depth), x.parley());
            checks.due(name("honours", depth), honours[depth], x.ofSiege(2));
            checks.due("over", 2, x.ofSiege(1));
            checks.due("the clock", clock, x.ofSiege(0));
        }
    }

    /** A PARLEY that is refused changes nothing; so does one that is asked twice. */
    private static void refusedParley() {
        Siegelines x = atDepth(3, 41, 10);
        long before = x.digest();
        checks.fails("119", x.parley());
        checks.fails("119 again", x.parley());
        checks.due("nothing changed", before, x.digest());
        checks.due("people stay when it gives up", 7, peopleOfTerms());
    }

    private static int peopleOfTerms() {
        Siegelines x = Fields.plain(5, 5);
        x.ground(12, 0, 0, 6, 0);
        x.stores(1, 0, 0, 0, 1);
        x.town(7, 0, 10);
        x.company(0, 0, 1);
        x.company(1, 24, 1);
        x.begin();
        x.parley();
        return x.ofSiege(5);
    }

    /** "Or if no COMPANY of the SIDE 1 is left": HONOURS 0, behind the GUNS of an HOUR. */
    private static void lastOfTheGarrison() {
        for (int men = 12; men <= 13; men++) {
            Siegelines x = Fields.plain(9, 5);
            x.stores(0, 99, 99, 0, 60);
            x.town(100, 0, 10);
            x.gun(0, 9, 1);
            x.company(0, 0, 9);
            x.company(1, 12, men);
            x.begin();
            x.aim(0, 12);
            x.order(0, 3, 0);
            x.pass(1);
            checks.due(name("over", men), men == 12 ? 2 : 1, x.ofSiege(1));
            checks.due("honours", men == 12 ? 0 : -1, x.ofSiege(2));
            checks.due("the clock", men == 12 ? 0 : 1, x.ofSiege(0));
            checks.due("companies do not act any more", men == 12 ? 0 : 1, x.ofCompany(0, 3));
            checks.due("people stay", 100, x.ofSiege(5));
        }
    }

    /** "LIFTED (HONOURS NONE), if MORALE of the SIDE 0 is 0, or it has no COMPANY left". */
    private static void lastOfTheBesiegers() {
        for (int men = 12; men <= 13; men++) {
            Siegelines x = Fields.plain(9, 5);
            x.stores(1, 99, 99, 0, 60);
            x.gun(1, 12, 1);
            x.company(0, 9, men);
            x.company(1, 44, 9);
            x.begin();
            x.aim(0, 9);
            x.order(1, 3, 0);
            x.pass(1);
            checks.due(name("over", men), men == 12 ? 2 : 1, x.ofSiege(1));
            checks.due("no honours", -1, x.ofSiege(2));
            checks.due("the clock", men == 12 ? 0 : 1, x.ofSiege(0));
            checks.due("companies do not act any more", men == 12 ? 0 : 1, x.ofCompany(1, 3));
        }
    }

    /** "In the order that is told here": no COMPANY on both SIDES, by the GUNS of one HOUR, are HONOURS 0. */
    private static void bothAtOnce() {
        Siegelines x = Fields.plain(9, 5);
        x.stores(0, 99, 99, 0, 60);
        x.stores(1, 99, 99, 0, 60);
        x.gun(1, 12, 1);
        x.gun(0, 9, 1);
        x.company(0, 9, 1);
        x.company(1, 12, 1);
        x.begin();
        x.aim(0, 9);
        x.aim(1, 12);
        x.pass(1);
        checks.due("nobody is left", 0, x.ofSide(0, 6) + x.ofSide(1, 6));
        checks.due("over", 2, x.ofSiege(1));
        checks.due("honours of 0", 0, x.ofSiege(2));
    }

    /** "Behind each act of a COMPANY": the next one does not act any more; those ahead of it did. */
    private static void askedInOrder() {
        Siegelines x = Fields.plain(5, 5);
        x.ground(23, 0, 0, 5, 0);
        x.company(0, 0, 20);
        x.company(0, 23, 9);
        x.company(0, 0, 20);
        x.company(1, 12, 9);
        x.begin();
        x.mine(1, 0);
        x.order(0, 3, 0);
        x.order(1, 5, 24);
        x.order(2, 3, 0);
        x.pass(24);
        checks.due("the first acted", 1, x.ofCompany(0, 3));
        checks.due("the second is on gate", 24, x.ofCompany(1, 1));
        checks.due("the third did not act", 0, x.ofCompany(2, 3));
        checks.due("one gabion", 1, x.ofSide(0, 2));
        checks.due("mines did not go on", 0, x.ofMine(0, 5));
        checks.due("the clock", 0, x.ofSiege(0));
        checks.due("over", 2, x.ofSiege(1));
    }
}

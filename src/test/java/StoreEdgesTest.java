/** Part 6: the bounds of stores, morale and the sick; promises 5, 6, 9 and 28. */
final class StoreEdgesTest {
    private static final Checks checks = new Checks("StoreEdgesTest");

    public static void main(String[] args) {
        storesAsTold();
        storesOfNewObjects();
        townAsTold();
        musterOfLowestAndHighest();
        atMidnightAlone();
        eatenByMen();
        eatenByPeople();
        justEnoughFood();
        hungerByDays();
        hungerAndMorale();
        sickByMen();
        sickByHungerAndMarsh();
        sickByFires();
        sickAreNoLosses();
        desertersByMorale();
        desertersBehindSick();
        supplyOfNoneAndMost();
        supplyBehindTheMeal();
        closedRoad();
        breachesAndMorale();
        firesAreHalved();
        expelledAndMorale();
        peopleThatWereExpelled();
        moraleByRelief();
        checks.end();
    }

    private static String name(String what, int... numbers) {
        return what + " " + java.util.Arrays.toString(numbers);
    }

    /** "Tells stores of a SIDE, in place of those before"; "returns POWDER and FOOD together". */
    private static void storesAsTold() {
        int[][] told = {{0, 0, 0, 1}, {9999, 9999, 999, 100}, {0, 9999, 0, 100}, {9999, 0, 999, 1}, {1, 2, 3, 4}};
        for (int side = 0; side <= 1; side++) {
            Siegelines x = Fields.plain(5, 5);
            for (int[] t : told) {
                checks.due(name("stores", t), t[0] + t[1], x.stores(side, t[0], t[1], t[2], t[3]));
                for (int what = 0; what <= 3; what++) {
                    checks.due("as told", t[what], x.ofSide(side, what));
                    checks.due("of the other", what == 3 ? 60 : 0, x.ofSide(1 - side, what));
                }
            }
        }
    }

    /** "(MORALE and DAYS as lay() says)", "POWDER, FOOD, GABIONS, SUPPLY and PEOPLE are 0". */
    private static void storesOfNewObjects() {
        Siegelines[] objects = {new Siegelines(), Fields.plain(5, 5)};
        for (Siegelines x : objects) {
            for (int side = 0; side <= 1; side++) {
                for (int what = 0; what <= 12; what++) {
                    checks.due(name("ofSide", side, what), what == 3 ? 60 : 0, x.ofSide(side, what));
                }
            }
            for (int what = 0; what <= 12; what++) {
                checks.due(name("ofSiege", what), what == 2 ? -1 : what == 8 ? 10 : 0, x.ofSiege(what));
            }
        }
        Siegelines kept = new Siegelines();
        kept.stores(0, 5, 6, 7, 8);
        kept.town(40, 9, 3);
        checks.due("told without a map", 8, kept.ofSide(0, 3));
        checks.due("days", 3, kept.ofSiege(8));
        kept.lay(5, 5, 100);
        checks.due("gone by lay", 60, kept.ofSide(0, 3));
        checks.due("days", 10, kept.ofSiege(8));
        checks.due("people", 0, kept.ofSiege(5));
        checks.due("powder", 0, kept.ofSide(0, 0));
    }

    /** "Returns what the SIDE 1 EATS by PEOPLE alone": PEOPLE / 20. */
    private static void townAsTold() {
        Siegelines x = Fields.plain(5, 5);
        int[] people = {0, 1, 19, 20, 39, 40, 1999, 2000};
        for (int p : people) {
            checks.due(name("people", p), p / 20, x.town(p, 200, 40));
            checks.due("as told", p, x.ofSiege(5));
            checks.due("days", 40, x.ofSiege(8));
        }
        checks.due("again", 0, x.town(0, 0, 1));
        checks.due("days of 1", 1, x.ofSiege(8));
    }

    /** "With numbers in a row as for a MAP": the seeds 0 and 99, in place of what was told but for MORALE. */
    private static void musterOfLowestAndHighest() {
        int[] seeds = {0, 1, 98, 99};
        for (int seed : seeds) {
            Siegelines x = Fields.plain(6, 5);
            x.camp(7, 8);
            x.stores(0, 9999, 9999, 999, 100);
            x.stores(1, 9999, 9999, 999, 1);
            x.town(2000, 200, 40);
            int[] d = Fields.drawn(seed, 23);
            int men = 0;
            for (int i = 3; i <= 6; i++) {
                men += d[i] - d[i + 10];
            }
            checks.due(name("men of both", seed), men, x.muster(seed));
            for (int side = 0; side <= 1; side++) {
                checks.due("powder", 100 + d[10 * side], x.ofSide(side, 0));
                checks.due("food", 40 + d[10 * side + 1], x.ofSide(side, 1));
                checks.due("gabions", 10 + d[10 * side + 2] % 10, x.ofSide(side, 2));
                checks.due("morale", side == 0 ? 100 : 1, x.ofSide(side, 3));
                checks.due("companies", 4, x.ofSide(side, 6));
                checks.due("guns", 3, x.ofSide(side, 12));
                for (int i = 0; i < 4; i++) {
                    checks.due("where it is", 7 + side, x.ofCompany(4 * side + i, 1));
                    checks.due("men", 60 + d[10 * side + 3 + i], x.ofCompany(4 * side + i, 2));
                }
                for (int i = 0; i < 3; i++) {
                    checks.due("where a gun is", 7 + side, x.ofGun(3 * side + i, 1));
                    checks.due("calibre", 1 + d[10 * side + 7 + i] % 3, x.ofGun(3 * side + i, 2));
                }
            }
            checks.due("people", 200 + d[20], x.ofSiege(5));
            checks.due("days", 4 + d[22] % 8, x.ofSiege(8));
            int food = x.ofSide(0, 1);
            int eaten = x.ofSide(0, 5) / 10;
            x.begin();
            x.pass(24);
            checks.due("supply", 5 + d[21] % 10, x.ofSide(0, 0) - 100 - d[0]);
            checks.due("of food, too", Math.max(0, food - eaten) + 5 + d[21] % 10, x.ofSide(0, 1));
            checks.refuses("no ninth company", Checks.INDEX, x, () -> x.ofCompany(8, 0));
            checks.refuses("no seventh gun", Checks.INDEX, x, () -> x.ofGun(6, 0));
        }
    }

    /** A siege of a company of so many on camp and one on gate, with food and morale. */
    private static Siegelines camps(int men0, int men1, int food0, int food1, int morale) {
        Siegelines x = Fields.plain(5, 5);
        x.stores(0, 0, food0, 0, morale);
        x.stores(1, 0, food1, 0, morale);
        x.company(0, 0, men0);
        x.company(1, 24, men1);
        return x;
    }

    /** "At the end of each HOUR whose HOUR OF DAY is 23": the 24th, 48th and 72nd HOUR. */
    private static void atMidnightAlone() {
        Siegelines x = camps(49, 49, 100, 100, 60);
        x.begin();
        for (int hour = 1; hour <= 72; hour++) {
            x.pass(1);
            checks.due(name("eaten by hour", hour), 100 - 4 * (hour / 24), x.ofSide(0, 1));
            checks.due(name("eaten by the garrison", hour), 100 - 4 * (hour / 24), x.ofSide(1, 1));
        }
    }

    /** "MEN of all its COMPANIES / 10": together, not each. */
    private static void eatenByMen() {
        int[][] men = {{1, 1, 0}, {5, 4, 0}, {5, 5, 1}, {9, 9, 1}, {10, 9, 1}, {10, 10, 2}, {49, 49, 9}};
        for (int[] m : men) {
            for (int side = 0; side <= 1; side++) {
                Siegelines x = camps(side == 0 ? m[0] : 9, side == 0 ? 9 : m[0], 100, 100, 60);
                x.company(side, 24 * side, m[1]);
                x.begin();
                x.pass(24);
                checks.due(name("eaten", m), 100 - m[2], x.ofSide(side, 1));
                checks.due("by the other", 100, x.ofSide(1 - side, 1));
            }
        }
    }

    /** "(For the SIDE 1 PEOPLE / 20 more)": each rounded down for itself. */
    private static void eatenByPeople() {
        int[][] people = {{0, 0}, {19, 0}, {20, 1}, {39, 1}, {40, 2}, {2000, 100}};
        for (int[] p : people) {
            Siegelines x = camps(9, 19, 1000, 1000, 60);
            x.town(p[0], 0, 10);
            x.begin();
            x.pass(24);
            checks.due(name("eaten", p), 999 - p[1], x.ofSide(1, 1));
            checks.due("not by the besiegers", 1000, x.ofSide(0, 1));
        }
    }

    /** "If FOOD is enough, that is less, HUNGER of the SIDE is 0; otherwise FOOD is 0, HUNGER 1 more, MORALE 6 less". */
    private static void justEnoughFood() {
        for (int side = 0; side <= 1; side++) {
            for (int food = 0; food <= 6; food++) {
                Siegelines x = camps(49, 49, side == 0 ? food : 99, side == 0 ? 99 : food, 60);
                x.begin();
                x.pass(24);
                boolean isEnough = food >= 4;
                checks.due(name("food", side, food), isEnough ? food - 4 : 0, x.ofSide(side, 1));
                checks.due("hunger", isEnough ? 0 : 1, x.ofSide(side, 4));
                checks.due("morale", isEnough ? 60 : 54, x.ofSide(side, 3));
                checks.due("hunger of the other", 0, x.ofSide(1 - side, 4));
            }
        }
        Siegelines none = camps(9, 9, 0, 0, 60);
        none.begin();
        none.pass(24);
        checks.due("who eats nothing has enough of nothing", 0, none.ofSide(0, 4) + none.ofSide(1, 4));
    }

    /** "HUNGER (days without enough)": it grows, and is 0 at once when there is enough again. */
    private static void hungerByDays() {
        Siegelines x = camps(49, 49, 0, 0, 100);
        x.town(0, 3, 10);
        x.begin();
        int[] food = {3, 3, 3, 3};
        int[] hunger = {1, 2, 3, 4};
        for (int day = 0; day < 4; day++) {
            x.pass(24);
            checks.due("3 are less than 4, and 3 come", food[day], x.ofSide(0, 1));
            checks.due("hunger of the besiegers", hunger[day], x.ofSide(0, 4));
            checks.due("hunger of the garrison", hunger[day], x.ofSide(1, 4));
            checks.due("morale", 94 - 6 * day, x.ofSide(1, 3));
        }
        Siegelines fed = camps(49, 49, 3, 99, 100);
        fed.town(0, 4, 10);
        fed.begin();
        fed.pass(24);
        checks.due("hungry for a day", 1, fed.ofSide(0, 4));
        fed.pass(24);
        checks.due("4 are enough", 0, fed.ofSide(0, 4));
        checks.due("morale stays as it is", 94, fed.ofSide(0, 3));
    }

    /** "MORALE 6 less; .. always 0 at least": besiegers with 0 are LIFTED at the end of that MIDNIGHT. */
    private static void hungerAndMorale() {
        for (int side = 0; side <= 1; side++) {
            for (int morale = 1; morale <= 8; morale++) {
                Siegelines x = camps(10, 10, side == 0 ? 0 : 99, side == 0 ? 99 : 0, morale);
                x.begin();
                x.pass(24);
                int left = Math.max(0, morale - 6);
                checks.due(name("morale", side, morale), left, x.ofSide(side, 3));
                boolean isLifted = side == 0 && left == 0;
                checks.due("whether it is over", isLifted ? 2 : 1, x.ofSiege(1));
                checks.due("the clock", isLifted ? 23 : 24, x.ofSiege(0));
            }
        }
    }

    /** "SICK ones go: MEN / 50 * (1 ..)": of 49 nobody, of 50 and 99 one. */
    private static void sickByMen() {
        int[] men = {1, 49, 50, 51, 99, 100, 149, 150, 199, 200};
        for (int m : men) {
            for (int side = 0; side <= 1; side++) {
                Siegelines x = camps(9, 9, 99, 99, 60);
                x.company(side, 24 * side, m);
                x.begin();
                x.pass(24);
                checks.due(name("left of", m, side), m - m / 50, x.ofCompany(2, 2));
                checks.due("sick", m / 50, x.ofSide(side, 11));
                checks.due("of the other", 0, x.ofSide(1 - side, 11));
            }
        }
    }

    /** "And 1 more with HUNGER above 0, and 1 more for the SIDE 0, if its SQUARE is MARSH". */
    private static void sickByHungerAndMarsh() {
        for (int soil = 0; soil <= 3; soil++) {
            for (int hungry = 0; hungry <= 1; hungry++) {
                for (int side = 0; side <= 1; side++) {
                    Siegelines x = Fields.plain(5, 5);
                    x.ground(12, 0, soil, 0, 0);
                    x.stores(0, 0, 999, 0, 60);
                    x.stores(1, 0, 999, 0, 60);
                    x.stores(side, 0, hungry == 1 ? 0 : 999, 0, 60);
                    x.company(side, 12, 149);
                    x.company(0, 0, 9);
                    x.company(1, 24, 9);
                    x.begin();
                    x.pass(24);
                    int times = 1 + hungry + (side == 0 && soil == 2 ? 1 : 0);
                    checks.due(name("sick", soil, hungry, side), 2 * times, x.ofSide(side, 11));
                    checks.due("left", 149 - 2 * times, x.ofCompany(0, 2));
                }
            }
        }
    }

    /** A town at 4 in which there are so many FIRES ahead of midnight, by 10 shots in four hours, then one an hour. */
    private static Siegelines burning(int fires, int food) {
        Siegelines x = Fields.plain(5, 5);
        x.ground(4, 0, 0, 3, 0);
        x.stores(0, 9999, 999, 0, 60);
        x.stores(1, 0, food, 0, 60);
        x.gun(0, 0, 3);
        x.company(0, 0, 150);
        x.company(1, 24, 150);
        x.begin();
        int hours = fires < 10 ? 1 : fires - 6;
        x.pass(23 - hours);
        x.aim(0, fires > 0 ? 4 : -1);
        x.pass(hours);
        x.aim(0, -1);
        checks.due("fires", fires, x.ofSiege(6));
        return x;
    }

    /** "Or for the SIDE 1, if FIRES are above 20": at 20 they are not. */
    private static void sickByFires() {
        int[] fires = {0, 4, 10, 19, 20, 21, 22};
        for (int f : fires) {
            for (int hungry = 0; hungry <= 1; hungry++) {
                Siegelines x = burning(f, hungry == 1 ? 0 : 999);
                x.pass(1);
                int times = 1 + hungry + (f > 20 ? 1 : 0);
                checks.due(name("sick by fires, hunger", f, hungry), 3 * times, x.ofSide(1, 11));
                checks.due("of the besiegers", 3, x.ofSide(0, 11));
            }
        }
    }

    /** LOSSES are by SHOTS, fights, mines and deserters; "SICK (MEN that went so, ever)" are counted apart. */
    private static void sickAreNoLosses() {
        Siegelines x = camps(200, 200, 999, 999, 60);
        x.begin();
        int men = 200;
        int sick = 0;
        for (int day = 0; day < 5; day++) {
            x.pass(24);
            sick += men / 50;
            men -= men / 50;
            checks.due(name("sick ever", day), sick, x.ofSide(0, 11));
            checks.due("men", men, x.ofSide(1, 5));
            checks.due("no losses", 0, x.ofSide(0, 9) + x.ofSide(1, 9));
        }
    }

    /** "With MORALE below 40: each has MEN * (40 - MORALE) / 400 less". */
    private static void desertersByMorale() {
        int[] men = {1, 10, 11, 20, 21, 40, 49};
        int[] morales = {1, 20, 30, 38, 39, 40, 41, 100};
        for (int side = 0; side <= 1; side++) {
            for (int m : men) {
                for (int morale : morales) {
                    Siegelines x = Fields.plain(5, 5);
                    x.stores(side, 0, 999, 0, morale);
                    x.stores(1 - side, 0, 999, 0, 60);
                    x.company(side, 24 * side, m);
                    x.company(1 - side, 24 - 24 * side, 49);
                    x.company(side, 24 * side, m);
                    x.begin();
                    x.pass(24);
                    int gone = morale < 40 ? m * (40 - morale) / 400 : 0;
                    checks.due(name("left", side, m, morale), m - gone, x.ofCompany(0, 2));
                    checks.due("of each", m - gone, x.ofCompany(2, 2));
                    checks.due("losses", 2 * gone, x.ofSide(side, 9));
                    checks.due("none of the other", 0, x.ofSide(1 - side, 9));
                }
            }
        }
    }

    /** "Then": those that are SICK went ahead of that, and the meal's MORALE counts. */
    private static void desertersBehindSick() {
        int[] morales = {40, 44, 45, 46, 47};
        for (int morale : morales) {
            Siegelines x = camps(200, 200, 0, 999, morale);
            x.begin();
            x.pass(24);
            int then = morale - 6;
            int left = 200 - 8;
            int gone = then < 40 ? left * (40 - then) / 400 : 0;
            checks.due(name("hungry ones", morale), left - gone, x.ofCompany(0, 2));
            checks.due("losses", gone, x.ofSide(0, 9));
            checks.due("sick", 8, x.ofSide(0, 11));
            checks.due("those with food", 196, x.ofCompany(1, 2));
        }
    }

    /** "The SIDE 0 gets SUPPLY of POWDER and of FOOD": 0 to 200, each MIDNIGHT. */
    private static void supplyOfNoneAndMost() {
        int[] supplies = {0, 1, 199, 200};
        for (int supply : supplies) {
            Siegelines x = camps(9, 9, 9999, 9999, 60);
            x.stores(0, 9999, 9999, 0, 60);
            x.town(0, supply, 10);
            x.begin();
            x.pass(24);
            checks.due(name("powder", supply), 9999 + supply, x.ofSide(0, 0));
            checks.due("food", 9999 + supply, x.ofSide(0, 1));
            checks.due("the garrison's", 9999, x.ofSide(1, 0) + x.ofSide(1, 1));
            x.pass(48);
            checks.due("thrice", 9999 + 3 * supply, x.ofSide(0, 0));
            checks.holds("sound", x.isSound());
        }
    }

    /** "Then": SUPPLY of a MIDNIGHT does not feed at that MIDNIGHT. */
    private static void supplyBehindTheMeal() {
        Siegelines x = camps(49, 9, 3, 99, 60);
        x.town(0, 200, 10);
        x.begin();
        x.pass(24);
        checks.due("hungry all the same", 1, x.ofSide(0, 4));
        checks.due("then it has come", 200, x.ofSide(0, 1));
    }

    /** "If the ROAD is open": it is closed from the MIDNIGHT on at which the RELIEF is THERE, whose SUPPLY came. */
    private static void closedRoad() {
        Siegelines x = camps(9, 9, 99, 99, 60);
        x.town(0, 10, 1);
        x.begin();
        x.letter();
        int[] powder = {10, 20, 20, 20};
        int[] there = {0, 1, 1, 1};
        for (int day = 0; day < 4; day++) {
            x.pass(24);
            checks.due(name("powder", day), powder[day], x.ofSide(0, 0));
            checks.due("food", 99 + powder[day], x.ofSide(0, 1));
            checks.due("there", there[day], x.ofSiege(9));
        }
    }

    /** "The SIDE 1 has 1 of MORALE less for each BREACH on the MAP", 0 at least, behind its deserters. */
    private static void breachesAndMorale() {
        int[] morales = {1, 2, 3, 4, 40, 60};
        for (int breaches = 0; breaches <= 23; breaches += breaches < 4 ? 1 : 19) {
            for (int morale : morales) {
                Siegelines x = Fields.plain(5, 5);
                for (int square = 1; square <= breaches; square++) {
                    x.ground(square, 0, 0, 6, 0);
                }
                x.stores(1, 0, 99, 0, morale);
                x.company(0, 0, 9);
                x.company(1, 24, 9);
                x.begin();
                x.pass(24);
                checks.due(name("morale", breaches, morale), Math.max(0, morale - breaches), x.ofSide(1, 3));
                checks.due("of the besiegers", 60, x.ofSide(0, 3));
                checks.due("it goes on", 1, x.ofSiege(1));
            }
        }
    }

    /** "Behind both SIDES FIRES are half of what they were", rounded down to none. */
    private static void firesAreHalved() {
        int[] fires = {0, 4, 10, 11, 20, 21};
        for (int f : fires) {
            Siegelines x = burning(f, 999);
            int left = f;
            for (int day = 0; day < 6; day++) {
                x.pass(day == 0 ? 1 : 24);
                left /= 2;
                checks.due(name("fires", f, day), left, x.ofSiege(6));
            }
        }
    }

    /** "5 less for the SIDE 1, if PEOPLE are EXPELLED; .. 0 at least": however many. */
    private static void expelledAndMorale() {
        int[] morales = {1, 4, 5, 6, 60, 100};
        for (int morale : morales) {
            for (int people = 1; people <= 100; people += 99) {
                Siegelines x = camps(9, 9, 99, 99, 60);
                x.stores(1, 0, 99, 0, morale);
                x.town(100, 0, 10);
                x.begin();
                checks.due("people then", 100 - people, x.expel(people));
                checks.due(name("morale", morale, people), Math.max(0, morale - 5), x.ofSide(1, 3));
                checks.due("of the besiegers", 60, x.ofSide(0, 3));
                checks.due("it goes on", 1, x.ofSiege(1));
            }
        }
    }

    /** "EXPELLED ones go for good", and eat no more. */
    private static void peopleThatWereExpelled() {
        Siegelines x = camps(9, 9, 99, 99, 60);
        x.town(40, 0, 10);
        x.begin();
        checks.due("20 are left", 20, x.expel(20));
        x.pass(24);
        checks.due("they eat 1", 98, x.ofSide(1, 1));
        checks.due("19", 19, x.expel(1));
        x.pass(24);
        checks.due("they eat nothing", 98, x.ofSide(1, 1));
        checks.due("none", 0, x.expel(19));
        checks.refuses("nobody is left", Checks.ARGUMENT, x, () -> x.expel(1));
    }

    /** "MORALE of the SIDE 1 is 20 more, of the SIDE 0 15 less, once", within 0 to 100. */
    private static void moraleByRelief() {
        int[] morales = {1, 14, 15, 16, 60, 79, 80, 81, 100};
        for (int morale : morales) {
            Siegelines x = camps(9, 9, 99, 99, morale);
            x.town(0, 0, 1);
            x.begin();
            x.letter();
            x.pass(48);
            checks.due(name("of the garrison", morale), Math.min(100, morale + 20), x.ofSide(1, 3));
            checks.due(name("of the besiegers", morale), Math.max(0, morale - 15), x.ofSide(0, 3));
            checks.due("whether it is lifted", morale <= 15 ? 2 : 1, x.ofSiege(1));
            checks.due("the clock", morale <= 15 ? 47 : 48, x.ofSiege(0));
            if (morale > 15) {
                x.pass(48);
                checks.due("once", Math.min(100, morale + 20), x.ofSide(1, 3));
                checks.due("once for both", morale - 15, x.ofSide(0, 3));
            }
        }
    }
}

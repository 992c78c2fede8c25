import java.util.Random;

/** Part 4 but for storms: the bounds of what companies do; promises 8, 11, 26, 31 and 33. */
final class CompanyEdgesTest {
    private static final Checks checks = new Checks("CompanyEdgesTest");

    public static void main(String[] args) {
        companyAsPlaced();
        forceOfAll();
        orderAndGoal();
        restDownToNone();
        guardDownToNone();
        tiredOfTenRests();
        tiredOfEleven();
        tiredInVain();
        toilByMen();
        toilThatIsNeeded();
        toilThatIsTooLittle();
        gabionsThatAreNeeded();
        gabionsBySight();
        digWhereNoneSees();
        digByWork();
        digNotCampOrGate();
        digTouches();
        digWhereTheGarrisonIs();
        makeByMen();
        makeByPlace();
        marchOnAnyGround();
        marchByTheSmallestNumber();
        marchIntoPits();
        marchPastFoes();
        marchToWhereItIs();
        mendByMen();
        mendUpToSixty();
        mendBreachByToil();
        mendHeight();
        mendTouches();
        mendWithBesiegersThere();
        sapOnAnyGround();
        sapOfNone();
        goneCompany();
        checks.end();
    }

    private static String name(String what, int... numbers) {
        return what + " " + java.util.Arrays.toString(numbers);
    }

    /** "With MEN (1 to 200), TIRED (0 at first) and an ORDER with a GOAL: 0 REST (at first)". */
    private static void companyAsPlaced() {
        int[] men = {1, 2, 199, 200};
        for (int m : men) {
            for (int side = 0; side <= 1; side++) {
                Siegelines x = Fields.plain(5, 5);
                checks.due("its number", 0, x.company(side, 12, m));
                int[] want = {side, 12, m, 0, 0, -1, m * 14 * 110 / 100};
                for (int what = 0; what <= 6; what++) {
                    checks.due(name("ofCompany", m, what), want[what], x.ofCompany(0, what));
                }
                checks.due("men of its side", m, x.ofSide(side, 5));
                checks.due("companies of its side", 1, x.ofSide(side, 6));
                checks.due("none of the other", 0, x.ofSide(1 - side, 5) + x.ofSide(1 - side, 6));
            }
        }
    }

    /** "FORCE of a COMPANY is MEN * (14 - TIRED) * (MORALE of its SIDE + 50)", told "/ 100", rounded down. */
    private static void forceOfAll() {
        int[] men = {1, 7, 200};
        int[] morales = {1, 49, 50, 100};
        for (int m : men) {
            for (int morale : morales) {
                Siegelines x = Fields.plain(5, 5);
                x.stores(0, 0, 99, 0, morale);
                x.company(0, 0, m);
                x.company(1, 24, 1);
                x.begin();
                x.order(0, 4, 24);
                for (int tired = 0; tired <= 10; tired++) {
                    checks.due(name("force", m, morale, tired), m * (14 - tired) * (morale + 50) / 100,
                            x.ofCompany(0, 6));
                    x.pass(1);
                }
            }
        }
    }

    /** "Its GOAL (of 0, 2 and 3 it does not matter, and is NONE then)"; "returns the ORDER that it had". */
    private static void orderAndGoal() {
        int[] goals = {0, 24, 12, -1, 25, Integer.MIN_VALUE, Integer.MAX_VALUE};
        for (int side = 0; side <= 1; side++) {
            Siegelines x = Fields.begun(5, 5);
            int had = 0;
            for (int order = 0; order <= 6; order++) {
                boolean isFree = order == 0 || order == 2 || order == 3;
                if (order == (side == 0 ? 6 : 1)) {
                    continue;
                }
                for (int goal : goals) {
                    if (isFree || goal >= 0 && goal <= 24) {
                        checks.due(name("the order ahead of", side, order, goal), had, x.order(side, order, goal));
                        checks.due("its order", order, x.ofCompany(side, 4));
                        checks.due("its goal", isFree ? -1 : goal, x.ofCompany(side, 5));
                        had = order;
                    }
                }
            }
        }
    }

    /** A company of 9 on camp that is so TIRED, by an order to make. */
    private static Siegelines tired(int tired) {
        Siegelines x = Fields.plain(5, 5);
        x.stores(0, 0, 9999, 0, 60);
        x.stores(1, 0, 9999, 0, 60);
        x.company(0, 0, 200);
        x.company(1, 24, 9);
        x.begin();
        x.order(0, 3, 0);
        if (tired > 0) {
            x.pass(tired);
        }
        checks.due("tired", tired, x.ofCompany(0, 3));
        return x;
    }

    /** "REST: TIRED is 2 less, 0 at least". */
    private static void restDownToNone() {
        for (int tired = 0; tired <= 10; tired++) {
            Siegelines x = tired(tired);
            x.order(0, 0, 0);
            int then = tired;
            for (int hour = 0; hour < 6; hour++) {
                x.pass(1);
                then = Math.max(0, then - 2);
                checks.due(name("rested", tired, hour), then, x.ofCompany(0, 3));
            }
        }
    }

    /** "GUARD: TIRED is 1 less, 0 at least"; with 10 it acts as at REST first. */
    private static void guardDownToNone() {
        for (int tired = 0; tired <= 10; tired++) {
            Siegelines x = tired(tired);
            x.order(0, 2, 0);
            int then = tired;
            for (int hour = 0; hour < 11; hour++) {
                x.pass(1);
                then = Math.max(0, then - (then >= 10 ? 2 : 1));
                checks.due(name("at guard", tired, hour), then, x.ofCompany(0, 3));
                checks.due("it stays at guard", 2, x.ofCompany(0, 4));
            }
        }
    }

    /** "With TIRED of 10 or more it acts as at REST": of 9 it acts, of 10 it does not, and keeps its ORDER. */
    private static void tiredOfTenRests() {
        Siegelines x = tired(0);
        int then = 0;
        int gabions = 0;
        for (int hour = 0; hour < 23; hour++) {
            x.pass(1);
            gabions += then < 10 ? 10 : 0;
            then = then < 10 ? then + 1 : then - 2;
            checks.due(name("tired in hour", hour), then, x.ofCompany(0, 3));
            checks.due(name("gabions in hour", hour), gabions, x.ofSide(0, 2));
            checks.due("its order", 3, x.ofCompany(0, 4));
        }
        int[] orders = {0, 1, 2, 3, 4, 5};
        for (int order : orders) {
            Siegelines y = tired(10);
            y.order(0, order, 1);
            y.pass(1);
            checks.due(name("tired of 10 it rests at", order), 8, y.ofCompany(0, 3));
            checks.due("where it is", 0, y.ofCompany(0, 1));
            checks.due("with its order", order, y.ofCompany(0, 4));
            checks.due("no toil", 0, y.ofSquare(1, 4));
            checks.due("no gabions", 100, y.ofSide(0, 2));
        }
    }

    /** TIRED of 11, by setting a GUN right with 7, is 9 an HOUR later. */
    private static void tiredOfEleven() {
        Siegelines x = Fields.plain(9, 5);
        x.stores(0, 99, 99, 0, 60);
        x.gun(1, 12, 1);
        for (int gun = 0; gun < 3; gun++) {
            x.gun(0, 9, 1);
        }
        x.company(1, 12, 200);
        x.company(0, 0, 1);
        x.begin();
        x.order(0, 3, 0);
        x.pass(6);
        for (int gun = 1; gun <= 3; gun++) {
            x.aim(gun, 12);
        }
        x.pass(1);
        for (int gun = 1; gun <= 3; gun++) {
            x.aim(gun, -1);
        }
        checks.due("tired of 7", 11, x.right(0));
        x.pass(1);
        checks.due("it rests", 9, x.ofCompany(0, 3));
        x.pass(1);
        checks.due("it acts", 10, x.ofCompany(0, 3));
    }

    /** "Others: TIRED is 1 more (also if nothing comes of it)". */
    private static void tiredInVain() {
        int[][] vain = {{0, 1, 0}, {0, 1, 24}, {0, 3, 0}, {0, 4, 24}, {0, 5, 24}, {0, 5, 1}, {1, 3, 0}, {1, 4, 0},
            {1, 5, 0}, {1, 6, 24}, {1, 6, 0}};
        for (int[] v : vain) {
            Siegelines x = Fields.plain(5, 5);
            x.ground(1, 0, 0, 1, 9);
            x.company(0, 6, 19);
            x.company(1, 24, 19);
            x.begin();
            x.order(v[0], v[1], v[2]);
            for (int hour = 1; hour <= 3; hour++) {
                x.pass(1);
                checks.due(name("tired in vain", v), hour, x.ofCompany(v[0], 3));
                checks.due("its order stays", v[1], x.ofCompany(v[0], 4));
                checks.due("so does it", v[0] == 0 ? 6 : 24, x.ofCompany(v[0], 1));
            }
        }
    }

    /** "Its TOIL (of the SQUARE; 0 at first) is MEN / 10 more": nine men dig nothing. */
    private static void toilByMen() {
        int[] men = {1, 9, 10, 19, 20, 99, 199};
        for (int m : men) {
            Siegelines x = Fields.plain(5, 5);
            x.ground(1, 0, 3, 0, 0);
            x.company(0, 0, m);
            x.company(1, 24, 9);
            x.begin();
            checks.due("no toil at first", 0, x.ofSquare(1, 4));
            x.order(0, 1, 1);
            x.pass(1);
            checks.due(name("toil by men", m), m / 10, x.ofSquare(1, 4));
            x.pass(1);
            checks.due(name("twice", m), m / 10 * 2, x.ofSquare(1, 4));
        }
    }

    /** Four companies round 12, of which the last, of 10 or 9 men, digs an hour later: toil is 1 less than needed ahead. */
    private static Siegelines allButOne(int soil, int last) {
        int[][] first = {{95, 95, 0}, {145, 145, 10}, {115, 115, 10}, {195, 200, 200}};
        Siegelines x = Fields.plain(5, 5);
        x.ground(12, 2, soil, 0, 0);
        x.stores(0, 0, 999, 9, 60);
        x.company(0, 7, first[soil][0]);
        x.company(0, 11, first[soil][1]);
        x.company(0, 17, last);
        if (first[soil][2] > 0) {
            x.company(0, 13, first[soil][2]);
        }
        x.company(1, 24, 9);
        x.begin();
        x.order(0, 1, 12);
        x.order(1, 1, 12);
        if (first[soil][2] > 0) {
            x.order(3, 1, 12);
        }
        x.pass(1);
        for (int company = 0; company <= 3; company++) {
            x.order(company, 0, 0);
        }
        return x;
    }

    /** "TOIL that is needed: 20 on EARTH, 30 on CLAY, 24 on MARSH, 60 on ROCK. With that or more it is done". */
    private static void toilThatIsNeeded() {
        int[] needed = {20, 30, 24, 60};
        int[] dug = {18, 29, 23, 59};
        for (int soil = 0; soil <= 3; soil++) {
            Siegelines x = allButOne(soil, needed[soil] - dug[soil] == 1 ? 10 : 20);
            checks.due(name("toil on soil", soil), dug[soil], x.ofSquare(12, 4));
            x.order(2, 1, 12);
            x.pass(1);
            checks.due("it is done", 5, x.ofSquare(12, 2));
            checks.due("toil 0", 0, x.ofSquare(12, 4));
            checks.due("its height stays", 2, x.ofSquare(12, 0));
            checks.due("its soil, too", soil, x.ofSquare(12, 1));
            checks.due("who did it is there", 12, x.ofCompany(2, 1));
            checks.due("at rest", 0, x.ofCompany(2, 4));
            checks.due("without a goal", -1, x.ofCompany(2, 5));
            checks.due("tired of 1", 1, x.ofCompany(2, 3));
            checks.due("the first is not", 7, x.ofCompany(0, 1));
            checks.due("a trench", 1, x.ofSiege(11));
            checks.due("gabions", soil == 2 ? 7 : 9, x.ofSide(0, 2));
        }
    }

    private static void toilThatIsTooLittle() {
        int[] dug = {19, 29, 23, 59};
        for (int soil = 0; soil <= 3; soil++) {
            Siegelines x = allButOne(soil, soil == 0 ? 19 : 9);
            x.order(2, 1, 12);
            x.pass(1);
            checks.due(name("one less than is needed on soil", soil), dug[soil], x.ofSquare(12, 4));
            checks.due("no trench", 0, x.ofSquare(12, 2));
            checks.due("it stays", 17, x.ofCompany(2, 1));
            checks.due("with its order", 1, x.ofCompany(2, 4));
            checks.due("and its goal", 12, x.ofCompany(2, 5));
        }
    }

    /** A company of 200 that digs at 12 in an hour, with gabions, and a gun of the garrison that sees it or none. */
    private static Siegelines digger(int soil, int gabions, boolean isSeen) {
        Siegelines x = Fields.plain(9, 5);
        x.ground(12, 0, soil, 0, 0);
        x.stores(0, 99, 999, gabions, 60);
        x.gun(1, isSeen ? 15 : 17, 1);
        for (int company = 0; company < 3; company++) {
            x.company(0, 11, 200);
        }
        x.company(1, 44, 9);
        x.begin();
        x.order(0, 1, 12);
        x.order(1, 1, 12);
        x.order(2, 1, 12);
        return x;
    }

    /** "2 on MARSH (seen or not), on others 1, if a READY GUN of the SIDE 1 SEES the GOAL, and 0, if none does". */
    private static void gabionsThatAreNeeded() {
        for (int soil = 0; soil <= 3; soil++) {
            for (int gabions = 0; gabions <= 3; gabions++) {
                for (int seen = 0; seen <= 1; seen++) {
                    int needed = soil == 2 ? 2 : seen;
                    String name = name("soil, gabions, seen", soil, gabions, seen);
                    Siegelines x = digger(soil, gabions, seen == 1);
                    checks.due(name + " by guns", seen, x.underFire(12, 1, 0));
                    x.pass(1);
                    boolean isDone = gabions >= needed;
                    checks.due(name, isDone ? 5 : 0, x.ofSquare(12, 2));
                    checks.due(name + " gabions", isDone ? gabions - needed : gabions, x.ofSide(0, 2));
                    checks.due(name + " companies there", isDone ? 200 : 0, x.ofSquare(12, 8));
                    if (!isDone) {
                        checks.due(name + " toil stays", 60, x.ofSquare(12, 4));
                        checks.due(name + " its order stays", 1, x.ofCompany(0, 4));
                        checks.due(name + " its goal stays", 12, x.ofCompany(0, 5));
                    }
                }
            }
        }
        gabionThatComesLate();
    }

    /** "(Without them TOIL, and the ORDER, stay.)": with them it is done in a later HOUR. */
    private static void gabionThatComesLate() {
        Siegelines late = Fields.plain(9, 5);
        late.gun(1, 4, 1);
        late.company(0, 0, 200);
        late.company(0, 0, 39);
        late.company(1, 44, 9);
        late.begin();
        late.order(0, 1, 1);
        late.pass(1);
        checks.due("20 of toil, none there", 20, late.ofSquare(1, 4));
        late.order(1, 3, 0);
        late.pass(1);
        checks.due("the gabion is made behind the first one's act", 40, late.ofSquare(1, 4));
        late.pass(1);
        checks.due("with it the trench is done", 5, late.ofSquare(1, 2));
        checks.due("one is gone, one was made", 1, late.ofSide(0, 2));
    }

    /** "SEES the GOAL at this HOUR": from 5 far by day alone; guns that are not READY, or of the SIDE 0, do not count. */
    private static void gabionsBySight() {
        int[] hours = {4, 5, 19, 20};
        for (int hour : hours) {
            Siegelines x = digger(0, 0, false);
            for (int company = 0; company <= 2; company++) {
                x.order(company, 0, 0);
            }
            x.pass(hour);
            x.order(0, 1, 12);
            x.pass(1);
            boolean isNight = hour < 5 || hour > 19;
            checks.due(name("a gun 5 far, at hour", hour), isNight ? 5 : 0, x.ofSquare(12, 2));
        }
        Siegelines own = Fields.plain(9, 5);
        own.gun(0, 3, 1);
        own.company(0, 0, 200);
        own.company(1, 44, 9);
        own.begin();
        own.order(0, 1, 1);
        own.pass(1);
        checks.due("own guns do not matter", 5, own.ofSquare(1, 2));
        Siegelines broken = Fields.plain(9, 5);
        broken.stores(0, 99, 99, 0, 60);
        broken.gun(1, 4, 1);
        for (int gun = 0; gun < 3; gun++) {
            broken.gun(0, 9, 1);
        }
        broken.company(0, 0, 200);
        broken.company(1, 44, 9);
        broken.begin();
        for (int gun = 1; gun <= 3; gun++) {
            broken.aim(gun, 4);
        }
        broken.order(0, 1, 1);
        broken.pass(1);
        checks.due("dismounted in this hour", 1, broken.ofGun(0, 5));
        checks.due("it does not see any more", 5, broken.ofSquare(1, 2));
    }

    private static void digWhereNoneSees() {
        Siegelines x = Fields.plain(9, 5);
        x.ground(3, 5, 0, 0, 0);
        x.gun(1, 4, 1);
        x.company(0, 0, 200);
        x.company(1, 44, 9);
        x.begin();
        checks.due("a height hides it", 0, x.underFire(1, 1, 0));
        x.order(0, 1, 1);
        x.pass(1);
        checks.due("no gabion is needed", 5, x.ofSquare(1, 2));
    }

    /** "Is none of WALL, TOWN, DITCH, TRENCH": a COVER, BREACH or CRATER is dug. */
    private static void digByWork() {
        for (int work = 0; work <= 7; work++) {
            boolean isDug = work == 0 || work == 4 || work == 6 || work == 7;
            Siegelines x = Fields.plain(5, 5);
            x.ground(12, 0, 0, work, 9);
            x.company(0, 11, 200);
            x.company(1, 24, 9);
            checks.due("12 is nearer to gate than 6", isDug ? 12 : 6, x.sap(0));
            x.begin();
            x.order(0, 1, 12);
            x.pass(1);
            checks.due(name("work", work), isDug ? 5 : work, x.ofSquare(12, 2));
            checks.due("where it is", isDug ? 12 : 11, x.ofCompany(0, 1));
            checks.due("toil", 0, x.ofSquare(12, 4));
        }
    }

    /** "GATE or CAMP", without WORK, are not dug. */
    private static void digNotCampOrGate() {
        Siegelines x = Fields.plain(5, 5);
        x.camp(11, 13);
        x.company(0, 12, 200);
        x.company(1, 24, 9);
        x.begin();
        int[] goals = {11, 13};
        for (int goal : goals) {
            x.order(0, 1, goal);
            x.pass(1);
            checks.due("no toil", 0, x.ofSquare(goal, 4));
            checks.due("no trench", 0, x.ofSquare(goal, 2));
        }
        checks.due("neither is to be dug", 7, x.sap(0));
        x.order(0, 1, 17);
        x.pass(1);
        checks.due("another one is", 5, x.ofSquare(17, 2));
    }

    /** "Its GOAL TOUCHES its SQUARE": not its own, not aslant, not over a row's end. */
    private static void digTouches() {
        for (int goal = 1; goal < 24; goal++) {
            Siegelines x = Fields.plain(5, 5);
            x.company(0, 9, 200);
            x.company(1, 24, 9);
            x.begin();
            x.order(0, 1, goal);
            x.pass(1);
            checks.due(name("dug from 9", goal), goal == 4 || goal == 8 || goal == 14 ? 5 : 0, x.ofSquare(goal, 2));
            Siegelines y = Fields.plain(5, 5);
            y.company(0, 10, 200);
            y.company(1, 24, 9);
            y.begin();
            y.order(0, 1, goal);
            y.pass(1);
            checks.due(name("dug from 10", goal), goal == 5 || goal == 11 || goal == 15 ? 5 : 0, y.ofSquare(goal, 2));
        }
    }

    /** "And no COMPANY of the SIDE 1 is there": one man hinders, own ones and one that is GONE do not. */
    private static void digWhereTheGarrisonIs() {
        for (int side = 0; side <= 1; side++) {
            Siegelines x = Fields.plain(5, 5);
            x.company(0, 11, 200);
            x.company(side, 12, 1);
            x.company(1, 24, 9);
            x.begin();
            x.order(0, 1, 12);
            x.pass(1);
            checks.due(name("one man of side", side), side == 0 ? 5 : 0, x.ofSquare(12, 2));
            checks.due("toil", 0, x.ofSquare(12, 4));
        }
        Siegelines gone = Fields.plain(5, 5);
        gone.stores(0, 99, 99, 9, 60);
        gone.gun(0, 10, 1);
        gone.company(0, 11, 200);
        gone.company(1, 12, 12);
        gone.company(1, 24, 9);
        gone.begin();
        gone.aim(0, 12);
        gone.order(0, 1, 12);
        gone.pass(1);
        checks.due("one that is gone in this hour", 5, gone.ofSquare(12, 2));
    }

    /** "MAKE: MEN / 20 GABIONS more": 19 men make none. */
    private static void makeByMen() {
        int[] men = {1, 19, 20, 39, 40, 199, 200};
        for (int m : men) {
            Siegelines x = Fields.plain(5, 5);
            x.stores(0, 0, 99, 999, 60);
            x.company(0, 0, m);
            x.company(1, 24, 9);
            x.begin();
            x.order(0, 3, 0);
            x.pass(1);
            checks.due(name("gabions by men", m), 999 + m / 20, x.ofSide(0, 2));
            checks.due("none of the garrison", 0, x.ofSide(1, 2));
        }
    }

    /** "If it is on CAMP or a TOWN": on GATE that is a TOWN, not on GATE without a WORK, nor on any other WORK. */
    private static void makeByPlace() {
        for (int work = 0; work <= 7; work++) {
            for (int side = 0; side <= 1; side++) {
                boolean isOthers = side == 0 ? work == 1 || work == 3 || work == 4 : work == 5;
                if (!isOthers) {
                    Siegelines x = Fields.plain(5, 5);
                    x.ground(12, 0, 0, work, 9);
                    x.company(side, 12, 100);
                    x.company(1 - side, side == 0 ? 24 : 0, 100);
                    x.begin();
                    x.order(0, 3, 0);
                    x.pass(1);
                    checks.due(name("gabions on work of side", work, side), work == 3 ? 5 : 0, x.ofSide(side, 2));
                }
            }
        }
        Siegelines gate = Fields.plain(5, 5);
        gate.ground(24, 0, 0, 3, 0);
        gate.company(1, 24, 100);
        gate.company(0, 0, 100);
        gate.begin();
        gate.order(0, 3, 0);
        gate.order(1, 3, 0);
        gate.pass(1);
        checks.due("on gate that is a town", 5, gate.ofSide(1, 2));
        checks.due("on camp", 5, gate.ofSide(0, 2));
    }

    /** Ways to each goal on any ground, for both sides, as "a shortest way over all SQUARES of its own SIDE and of nobody". */
    private static void marchOnAnyGround() {
        Random random = new Random(3);
        int[] works = {0, 0, 0, 0, 0, 1, 2, 3, 4, 5, 6, 7};
        int ways = 0;
        for (int i = 0; i < 150; i++) {
            Terrain t = Terrain.random(5 + i % 4, 5 + i % 3, random, works);
            Siegelines x = t.told();
            boolean[][] held = new boolean[2][t.count];
            int[] squares = {0, t.gate, random.nextInt(t.count), random.nextInt(t.count), random.nextInt(t.count)};
            int placed = 0;
            for (int k = 0; k < squares.length; k++) {
                if (t.owner(squares[k]) != 1 - k % 2) {
                    x.company(k % 2, squares[k], 10);
                    held[k % 2][squares[k]] = true;
                    placed++;
                }
            }
            for (int company = 0; company < placed; company++) {
                int side = x.ofCompany(company, 0);
                int from = x.ofCompany(company, 1);
                for (int goal = 0; goal < t.count; goal++) {
                    int want = from == goal ? 0 : t.ways(side, goal, held[1 - side])[from];
                    checks.due(name("march on ground, company, goal", i, company, goal), want, x.march(company, goal));
                    ways += want > 3 ? 1 : 0;
                }
            }
        }
        checks.holds("some ways are long", ways > 100);
    }

    /** "Of several next SQUARES the one with the smallest number; without a way it stays": each step on any ground. */
    private static void marchByTheSmallestNumber() {
        Random random = new Random(4);
        int[] works = {0, 0, 0, 0, 0, 0, 1, 2, 5, 7};
        int steps = 0;
        for (int i = 0; i < 150; i++) {
            Terrain t = Terrain.random(5 + i % 3, 5 + i % 4, random, works);
            Siegelines x = t.told();
            boolean[] nobody = new boolean[t.count];
            int at = random.nextInt(t.count - 1);
            int goal = random.nextInt(t.count);
            if (t.owner(at) == 1) {
                continue;
            }
            x.company(0, at, 10);
            x.company(1, t.gate, 10);
            x.begin();
            nobody[t.gate] = true;
            int[] ways = t.ways(0, goal, nobody);
            x.order(0, 4, goal);
            for (int hour = 1; hour <= 10; hour++) {
                int next = at;
                for (int square = t.count - 1; square >= 0 && at != goal && ways[at] > 0; square--) {
                    boolean isNearer = t.touch(square, at) && ways[square] == ways[at] - 1;
                    next = isNearer && t.isOpen(0, square, goal, nobody) ? square : next;
                }
                steps += next != at ? 1 : 0;
                at = next;
                x.pass(1);
                checks.due(name("step on ground", i, hour), at, x.ofCompany(0, 1));
                checks.due("its order", at == goal ? 0 : 4, x.ofCompany(0, 4));
                checks.due("its goal", at == goal ? -1 : goal, x.ofCompany(0, 5));
                if (at == goal) {
                    break;
                }
            }
        }
        checks.holds("some were made", steps > 200);
    }

    /** "But a DITCH or CRATER only, if that SQUARE is its GOAL"; out of one it goes. */
    private static void marchIntoPits() {
        int[] pits = {2, 7};
        for (int pit : pits) {
            Siegelines x = Fields.plain(5, 5);
            x.ground(11, 0, 0, pit, 0);
            x.ground(12, 0, 0, pit, 0);
            x.company(0, 10, 9);
            x.company(0, 11, 9);
            x.company(1, 24, 9);
            x.begin();
            checks.due("into it as a goal", 1, x.march(0, 11));
            checks.due("past it", 5, x.march(0, 13));
            checks.due("not through it to another one", 4, x.march(0, 12));
            checks.due("out of it", 1, x.march(1, 16));
            checks.due("out of it into another one", 1, x.march(1, 12));
            checks.due("and past that", 4, x.march(1, 13));
            x.order(0, 4, 11);
            x.order(1, 4, 12);
            x.pass(1);
            checks.due("it is in it", 11, x.ofCompany(0, 1));
            checks.due("so is the other", 12, x.ofCompany(1, 1));
        }
    }

    /** "That no COMPANY of the other SIDE holds": not to, not through, where one foe is; where own ones are it goes. */
    private static void marchPastFoes() {
        for (int side = 0; side <= 1; side++) {
            Siegelines x = Fields.plain(5, 5);
            x.company(0, 0, 9);
            x.company(side, 1, 1);
            x.company(1, 24, 9);
            checks.due(name("to where side is", side), side == 0 ? 1 : -1, x.march(0, 1));
            checks.due(name("past side", side), side == 0 ? 2 : 4, x.march(0, 2));
            x.company(1, 5, 1);
            checks.due("shut in", side == 0 ? 2 : -1, x.march(0, 2));
        }
        Siegelines both = Fields.plain(5, 5);
        both.company(0, 12, 9);
        both.company(1, 12, 9);
        both.company(1, 24, 9);
        checks.due("from a square that both hold", 1, both.march(0, 11));
        checks.due("it is there", 0, both.march(0, 12));
        checks.due("the other, too", 0, both.march(1, 12));
        checks.due("over the row's end it is 5", 5, edgeToEdge());
    }

    private static int edgeToEdge() {
        Siegelines x = Fields.plain(5, 5);
        x.company(0, 4, 9);
        x.company(1, 24, 9);
        return x.march(0, 5);
    }

    /** "0, if it is there"; MARCH there is 1 more TIRED, and it is at REST. */
    private static void marchToWhereItIs() {
        Siegelines x = Fields.begun(5, 5);
        checks.due("0 squares", 0, x.march(0, 0));
        checks.due("0 squares on gate", 0, x.march(1, 24));
        x.order(0, 4, 0);
        x.order(1, 4, 24);
        x.pass(1);
        for (int company = 0; company <= 1; company++) {
            checks.due("at rest", 0, x.ofCompany(company, 4));
            checks.due("no goal", -1, x.ofCompany(company, 5));
            checks.due("tired", 1, x.ofCompany(company, 3));
        }
    }

    /** "A WALL: that is more FIRM by MEN / 20": 19 men mend nothing. */
    private static void mendByMen() {
        int[] men = {1, 19, 20, 39, 40, 199, 200};
        for (int m : men) {
            Siegelines x = Fields.plain(5, 5);
            x.ground(23, 0, 0, 1, 1);
            x.company(1, 24, m);
            x.company(0, 0, 9);
            x.begin();
            x.order(0, 6, 23);
            x.pass(1);
            checks.due(name("firm by men", m), 1 + m / 20, x.ofSquare(23, 3));
            checks.due("it goes on", 6, x.ofCompany(0, 4));
            checks.due("with its goal", 23, x.ofCompany(0, 5));
        }
    }

    /** "(Not above 60 by that; one that is above it stays)". */
    private static void mendUpToSixty() {
        for (int firm = 48; firm <= 99; firm++) {
            for (int men = 20; men <= 200; men += 180) {
                Siegelines x = Fields.plain(5, 5);
                x.ground(23, 0, 0, 1, firm);
                x.company(1, 23, men);
                x.company(0, 0, 9);
                x.begin();
                x.order(0, 6, 23);
                x.pass(1);
                checks.due(name("firm, men", firm, men), firm >= 60 ? firm : Math.min(60, firm + men / 20),
                        x.ofSquare(23, 3));
            }
        }
    }

    /** "Its TOIL is MEN / 10 more; with 80 or more it is a WALL, FIRM 10, HEIGHT 1 more, TOIL 0". */
    private static void mendBreachByToil() {
        int[][] men = {{199, 199, 199, 199}, {200, 199, 199, 199}, {200, 200, 200, 199}, {200, 200, 200, 200}};
        int[] toil = {76, 77, 79, 80};
        for (int i = 0; i < men.length; i++) {
            Siegelines x = Fields.plain(5, 5);
            x.ground(18, 3, 2, 6, 0);
            int[] squares = {13, 17, 19, 23};
            for (int company = 0; company < 4; company++) {
                x.company(1, squares[company], men[i][company]);
            }
            x.company(0, 0, 9);
            x.begin();
            for (int company = 0; company < 4; company++) {
                x.order(company, 6, 18);
            }
            x.pass(1);
            boolean isDone = toil[i] >= 80;
            checks.due(name("toil", i), isDone ? 0 : toil[i], x.ofSquare(18, 4));
            checks.due("work", isDone ? 1 : 6, x.ofSquare(18, 2));
            checks.due("firm", isDone ? 10 : 0, x.ofSquare(18, 3));
            checks.due("height", isDone ? 4 : 3, x.ofSquare(18, 0));
            checks.due("soil", 2, x.ofSquare(18, 1));
            checks.due("breaches", isDone ? 0 : 1, x.ofSiege(10));
            checks.due("owner", isDone ? 1 : -1, x.ofSquare(18, 7));
        }
        Siegelines few = Fields.plain(5, 5);
        few.ground(18, 3, 2, 6, 0);
        few.company(1, 18, 9);
        few.company(0, 0, 9);
        few.begin();
        few.order(0, 6, 18);
        few.pass(5);
        checks.due("nine men mend nothing", 0, few.ofSquare(18, 4));
    }

    /** "HEIGHT 1 more (9 at most)". */
    private static void mendHeight() {
        for (int height = 0; height <= 9; height++) {
            Siegelines x = Fields.plain(5, 5);
            x.ground(18, height, 0, 6, 0);
            for (int company = 0; company < 4; company++) {
                x.company(1, 18, 200);
            }
            x.company(0, 0, 9);
            x.begin();
            for (int company = 0; company < 4; company++) {
                x.order(company, 6, 18);
            }
            x.pass(1);
            checks.due(name("height", height), Math.min(9, height + 1), x.ofSquare(18, 0));
            checks.due("a wall", 1, x.ofSquare(18, 2));
        }
    }

    /** "Its GOAL is its own SQUARE or TOUCHES it, and is a WALL .. or a BREACH": nothing else, and not over a row's end. */
    private static void mendTouches() {
        for (int goal = 1; goal < 24; goal++) {
            Siegelines x = Fields.plain(5, 5);
            x.ground(goal, 0, 0, 1, 5);
            x.company(1, 14, 20);
            x.company(0, 0, 9);
            x.begin();
            x.order(0, 6, goal);
            x.pass(1);
            boolean isNear = goal == 9 || goal == 13 || goal == 14 || goal == 19;
            checks.due(name("mended from 14", goal), isNear ? 6 : 5, x.ofSquare(goal, 3));
            Siegelines y = Fields.plain(5, 5);
            y.ground(goal, 0, 0, 6, 0);
            y.company(1, 10, 20);
            y.company(0, 0, 9);
            y.begin();
            y.order(0, 6, goal);
            y.pass(1);
            boolean isBeside = goal == 5 || goal == 10 || goal == 11 || goal == 15;
            checks.due(name("toil from 10", goal), isBeside ? 2 : 0, y.ofSquare(goal, 4));
        }
        for (int work = 0; work <= 7; work++) {
            if (work != 1 && work != 6) {
                Siegelines x = Fields.plain(5, 5);
                x.ground(18, 2, 0, work, 0);
                x.company(1, 23, 200);
                x.company(0, 0, 9);
                x.begin();
                x.order(0, 6, 18);
                x.pass(9);
                checks.due(name("work stays", work), work, x.ofSquare(18, 2));
                checks.due("without toil", 0, x.ofSquare(18, 4) + x.ofSquare(18, 3));
            }
        }
    }

    /** "A BREACH without a COMPANY of the SIDE 0": one man there hinders. */
    private static void mendWithBesiegersThere() {
        for (int side = 0; side <= 1; side++) {
            Siegelines x = Fields.plain(5, 5);
            x.ground(18, 2, 0, 6, 0);
            x.company(1, 23, 200);
            x.company(side, 18, 1);
            x.company(0, 0, 9);
            x.begin();
            x.order(0, 6, 18);
            x.pass(1);
            checks.due(name("one man of side", side), side == 0 ? 0 : 20, x.ofSquare(18, 4));
        }
    }

    /** "The one that the fewest READY GUNS of the SIDE 1 SEE; of several the least FAR from GATE; the smallest number". */
    private static void sapOnAnyGround() {
        Random random = new Random(5);
        int[] works = {0, 0, 0, 0, 1, 2, 3, 4, 5, 6, 7};
        int found = 0;
        for (int i = 0; i < 200; i++) {
            Terrain t = Terrain.random(5 + i % 4, 5 + i % 3, random, works);
            Siegelines x = t.told();
            int[] guns = new int[4];
            for (int gun = 0; gun < guns.length; gun++) {
                int square = random.nextInt(t.count);
                boolean isTaken = t.work[square] != 2 && t.work[square] != 6 && t.work[square] != 7
                        && t.owner(square) != 0;
                guns[gun] = isTaken ? square : t.gate;
                x.gun(1, guns[gun], 1 + gun % 3);
            }
            int foe = random.nextInt(t.count);
            foe = t.owner(foe) == 0 ? t.gate : foe;
            x.company(1, foe, 1);
            for (int company = 1; company < 8; company++) {
                int at = random.nextInt(t.count);
                at = t.owner(at) == 1 ? 0 : at;
                x.company(0, at, 1);
                int want = sapOf(t, at, foe, guns);
                checks.due(name("sap on ground", i, at), want, x.sap(company));
                found += want >= 0 ? 1 : 0;
            }
            checks.due("none of the garrison", -1, x.sap(0));
        }
        checks.holds("some were found", found > 500);
    }

    private static int sapOf(Terrain t, int at, int foe, int[] guns) {
        int best = -1;
        int least = Integer.MAX_VALUE;
        for (int square = 0; square < t.count; square++) {
            int work = t.work[square];
            boolean isDug = t.touch(at, square) && (work == 0 || work == 4 || work > 5) && square != 0
                    && square != t.gate && square != foe;
            if (isDug) {
                int seen = 0;
                for (int gun : guns) {
                    seen += t.sees(gun, square, 4) ? 1 : 0;
                }
                int weight = seen * 100 + t.far(square, t.gate);
                if (weight < least) {
                    least = weight;
                    best = square;
                }
            }
        }
        return best;
    }

    /** "NONE without one, or of a COMPANY of the SIDE 1, or that is GONE". */
    private static void sapOfNone() {
        for (int work = 0; work <= 7; work++) {
            Siegelines x = Fields.plain(5, 5);
            x.ground(7, 0, 0, work, 9);
            x.ground(11, 0, 0, work, 9);
            x.ground(13, 0, 0, work, 9);
            x.ground(17, 0, 0, work, 9);
            x.company(0, 12, 9);
            boolean isDug = work == 0 || work == 4 || work == 6 || work == 7;
            checks.due(name("sap among works", work), isDug ? 13 : -1, x.sap(0));
        }
        Siegelines x = Fields.plain(5, 5);
        x.company(1, 12, 9);
        checks.due("of the garrison", -1, x.sap(0));
        Siegelines camp = Fields.plain(5, 5);
        camp.ground(5, 0, 0, 1, 9);
        camp.company(0, 4, 9);
        checks.due("at the row's end: 3 and 9, not 5", 9, camp.sap(0));
        checks.due("tired, men and gabions do not matter", 1, tiredSap());
    }

    private static int tiredSap() {
        Siegelines x = Fields.plain(5, 5);
        x.ground(5, 0, 0, 2, 0);
        x.ground(1, 0, 2, 0, 0);
        x.company(0, 0, 1);
        x.company(1, 24, 1);
        x.begin();
        x.order(0, 3, 0);
        x.pass(10);
        return x.sap(0);
    }

    /** "With 0 it is GONE": what is asked of it and told to it, and that it is in nobody's way. */
    private static void goneCompany() {
        Siegelines x = Fields.plain(9, 5);
        x.ground(12, 0, 0, 5, 0);
        x.ground(15, 5, 0, 0, 0);
        x.stores(1, 99, 999, 0, 60);
        x.gun(1, 15, 1);
        x.company(0, 12, 4);
        x.company(1, 14, 200);
        x.company(0, 0, 9);
        x.begin();
        x.aim(0, 12);
        x.order(0, 2, 0);
        x.pass(1);
        checks.due("gone", 0, x.ofCompany(0, 2));
        checks.due("where it was", 12, x.ofCompany(0, 1));
        checks.due("no force", 0, x.ofCompany(0, 6));
        checks.due("companies", 1, x.ofSide(0, 6));
        checks.due("men there", 0, x.ofSquare(12, 8));
        checks.due("a sign of the trench", '=', x.row(1).charAt(3));
        checks.due("no march", -1, x.march(0, 0));
        checks.due("nor where it is", -1, x.march(0, 12));
        checks.due("no storm", -1, x.storm(0, 13));
        checks.due("no sap", -1, x.sap(0));
        checks.refuses("no order", Checks.STATE, x, () -> x.order(0, 0, 0));
        checks.refuses("no mine", Checks.STATE, x, () -> x.mine(0, 0));
        int tired = x.ofCompany(0, 3);
        x.pass(24);
        checks.due("it does not act", tired, x.ofCompany(0, 3));
        checks.due("it eats nothing", 979, x.ofSide(1, 1));
        Siegelines way = Fields.plain(5, 5);
        way.company(0, 1, 1);
        way.company(1, 2, 200);
        way.company(0, 0, 9);
        way.begin();
        checks.due("past him there is no way", -1, way.march(1, 1));
        way.order(0, 5, 2);
        way.pass(1);
        checks.due("he is gone", 0, way.ofCompany(0, 2));
        checks.due("the way is free", 1, way.march(1, 1));
    }
}

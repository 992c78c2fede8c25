import java.util.Random;

/** Part 4: the bounds of storms and fights; promise 32. */
final class StormEdgesTest {
    private static final Checks checks = new Checks("StormEdgesTest");
    private static final int FROM = 11;
    private static final int GOAL = 12;
    private static final int[] BESIDE = {7, 13, 17};

    public static void main(String[] args) {
        stormTouches();
        stormByWork();
        stormIntoDitches();
        forceByNight();
        forceByWorkAndGuard();
        guardTooTired();
        asMuchDoesNotWin();
        oneMoreWins();
        anyFights();
        quarterAndEighth();
        halfWithoutRefuge();
        firstRefugeByNumbers();
        refugeNotOverTheRow();
        moraleUpToHundred();
        moraleDownToNone();
        nobodyIsThere();
        spikedAlone();
        gabionsThrownIn();
        stormOfGate();
        stormAsked();
        checks.end();
    }

    private static String name(String what, int... numbers) {
        return what + " " + java.util.Arrays.toString(numbers);
    }

    /** "Its GOAL TOUCHES its SQUARE": not its own, not aslant, not over a row's end. */
    private static void stormTouches() {
        for (int side = 0; side <= 1; side++) {
            for (int goal = 1; goal < 24; goal++) {
                int[] from = {9, 10, 12};
                for (int f : from) {
                    Siegelines x = Fields.plain(5, 5);
                    x.company(side, f, 100);
                    x.company(0, 0, 9);
                    x.company(1, 24, 9);
                    boolean touches = Math.abs(f % 5 - goal % 5) + Math.abs(f / 5 - goal / 5) == 1;
                    checks.due(name("storm of", side, f, goal), touches ? 192500 : -1, x.storm(0, goal));
                    x.begin();
                    x.order(0, 5, goal);
                    x.pass(1);
                    checks.due("where it is", touches ? goal : f, x.ofCompany(0, 1));
                    checks.due("its order", touches ? 0 : 5, x.ofCompany(0, 4));
                    checks.due("its goal", touches ? -1 : goal, x.ofCompany(0, 5));
                }
            }
        }
    }

    /** "And is no WALL": of both sides, nor is it mended so; all other works are stormed (a DITCH as below). */
    private static void stormByWork() {
        for (int side = 0; side <= 1; side++) {
            for (int work = 0; work <= 7; work++) {
                Siegelines x = Fields.plain(5, 5);
                x.ground(GOAL, 0, 0, work, 9);
                x.company(side, FROM, 100);
                x.company(1 - side, side == 0 ? 24 : 0, 9);
                boolean isTaken = work != 1 && work != 2;
                checks.due(name("storm of work", side, work), isTaken ? 192500 : -1, x.storm(0, GOAL));
                x.begin();
                x.order(0, 5, GOAL);
                x.pass(1);
                checks.due("where it is", isTaken ? GOAL : FROM, x.ofCompany(0, 1));
                checks.due("how firm it is", work == 1 ? 9 : 0, x.ofSquare(GOAL, 3));
            }
        }
    }

    /** "(And no DITCH, if it does not storm out of a TRENCH, CRATER or DITCH)". */
    private static void stormIntoDitches() {
        for (int side = 0; side <= 1; side++) {
            for (int work = 0; work <= 7; work++) {
                boolean isOthers = side == 0 ? work == 1 || work == 3 || work == 4 : work == 5;
                if (isOthers) {
                    continue;
                }
                Siegelines x = Fields.plain(5, 5);
                x.ground(FROM, 0, 0, work, 9);
                x.ground(GOAL, 0, 0, 2, 0);
                x.company(side, FROM, 100);
                x.company(1 - side, side == 0 ? 24 : 0, 9);
                boolean isPit = work == 5 || work == 7 || work == 2;
                checks.due(name("into a ditch out of", side, work), isPit ? 192500 : -1, x.storm(0, GOAL));
                x.begin();
                x.order(0, 5, GOAL);
                x.pass(1);
                checks.due("where it is", isPit ? GOAL : FROM, x.ofCompany(0, 1));
            }
        }
    }

    /** "By NIGHT a STORM counts 5 / 4 of its own FORCE (rounded down)": at the hours 4, 5, 19 and 20. */
    private static void forceByNight() {
        for (int men = 1; men <= 7; men++) {
            Siegelines x = Fields.plain(5, 5);
            x.stores(0, 0, 99, 0, 1);
            x.company(0, FROM, men);
            x.company(1, 24, 9);
            x.begin();
            x.order(0, 3, 0);
            x.pass(1);
            x.order(0, 2, 0);
            for (int hour = 1; hour < 24; hour++) {
                int force = men * (14 - x.ofCompany(0, 3)) * 51;
                boolean isNight = hour <= 4 || hour >= 20;
                checks.due(name("men, hour", men, hour), isNight ? force * 5 / 4 : force, x.storm(0, GOAL));
                x.pass(1);
            }
        }
    }

    /** "Times 3 in a TOWN or COVER, 2 on a BREACH or in a TRENCH, 1 elsewhere, and times 3 / 2 more (rounded down, at last)". */
    private static void forceByWorkAndGuard() {
        int[] times = {1, 0, 1, 3, 3, 2, 2, 1};
        for (int work = 0; work <= 7; work++) {
            for (int guards = 0; guards <= 3 && work != 1; guards++) {
                int side = work == 5 ? 1 : 0;
                Siegelines x = Fields.plain(5, 5);
                x.ground(FROM, 0, 0, work == 2 ? 2 : 0, 0);
                x.ground(GOAL, 0, 0, work, 0);
                x.stores(1 - side, 0, 99, 0, 1);
                x.company(side, FROM, 200);
                x.company(1 - side, GOAL, 1);
                x.company(1 - side, GOAL, 3);
                x.company(1 - side, side == 0 ? 24 : 0, 3);
                x.begin();
                x.order(1, 3, 0);
                x.order(2, 3, 0);
                x.pass(1);
                x.order(1, guards % 2 == 1 ? 2 : 0, 0);
                x.order(2, guards >= 2 ? 2 : 0, 0);
                x.order(3, 2, 0);
                int force = 4 * 13 * 51 * times[work];
                int want = 200 * 14 * 110 * 5 / 4 - (guards > 0 ? force * 3 / 2 : force);
                checks.due(name("against work, guards", work, guards), want, x.storm(0, GOAL));
            }
        }
        Siegelines odd = Fields.plain(5, 5);
        odd.stores(1, 0, 99, 0, 1);
        odd.company(0, FROM, 1);
        odd.company(1, GOAL, 1);
        odd.begin();
        odd.order(1, 3, 0);
        odd.pass(1);
        odd.order(1, 2, 0);
        checks.due("663 * 3 / 2 is 994", 14 * 110 * 5 / 4 - 994, odd.storm(0, GOAL));
    }

    /** "GUARD of a COMPANY with TIRED of 10 or more does not count", of 9 it does. */
    private static void guardTooTired() {
        for (int tired = 8; tired <= 10; tired++) {
            Siegelines x = Fields.plain(5, 5);
            x.company(0, FROM, 100);
            x.company(1, GOAL, 10);
            x.company(1, 24, 9);
            x.begin();
            x.order(1, 3, 0);
            x.pass(tired);
            x.order(1, 2, 0);
            int force = 10 * (14 - tired) * 110;
            checks.due(name("guard, tired", tired), 154000 - (tired < 10 ? force * 3 / 2 : force), x.storm(0, GOAL));
        }
    }

    /** A storm by day of so many (TIRED of 1 by it) against 65 that are not TIRED. */
    private static Siegelines stormBy(int men, int morale) {
        Siegelines x = Fields.plain(5, 5);
        x.stores(0, 0, 99, 0, morale);
        x.company(0, FROM, men);
        x.company(1, GOAL, 65);
        x.company(1, 24, 1);
        x.company(0, 0, 1);
        x.begin();
        x.pass(5);
        x.order(0, 5, GOAL);
        x.pass(1);
        return x;
    }

    /** "The attacker wins, if its FORCE is more": 70 * 13 is as much as 65 * 14. */
    private static void asMuchDoesNotWin() {
        Siegelines x = stormBy(70, 60);
        checks.due("it stays", FROM, x.ofCompany(0, 1));
        checks.due("at rest", 0, x.ofCompany(0, 4));
        checks.due("70 less 17", 53, x.ofCompany(0, 2));
        checks.due("65 less 8", 57, x.ofCompany(1, 2));
        checks.due("a fight won by the garrison", 1, x.ofSide(1, 10));
        checks.due("none by the besiegers", 0, x.ofSide(0, 10));
        checks.due("tired of 1", 1, x.ofCompany(0, 3));
    }

    private static void oneMoreWins() {
        int[][] more = {{71, 60}, {70, 61}};
        for (int[] m : more) {
            Siegelines x = stormBy(m[0], m[1]);
            checks.due(name("one more", m), GOAL, x.ofCompany(0, 1));
            checks.due("70 less 8", m[0] - 8, x.ofCompany(0, 2));
            checks.due("49 less 24, on gate", 25, x.ofCompany(1, 2));
            checks.due("won", 1, x.ofSide(0, 10));
            checks.due("lost", 0, x.ofSide(1, 10));
        }
        int[][] less = {{69, 60}, {70, 59}};
        for (int[] l : less) {
            checks.due(name("one less", l), FROM, stormBy(l[0], l[1]).ofCompany(0, 1));
        }
    }

    /** Fights of any companies, works, hours and morales, worked out from the document. */
    private static void anyFights() {
        Random random = new Random(6);
        int won = 0;
        for (int i = 0; i < 3000; i++) {
            won += new Fight(random).fought(i) ? 1 : 0;
        }
        checks.holds("some are won, some lost", won > 500 && won < 2500);
    }

    /** One storm from 11 on 12; company 0 storms, and acts first. */
    private static final class Fight {
        final int side;
        final int work;
        final int hour;
        final int[] morale = new int[2];
        final int[] men;
        final int[] tired;
        final int[] orders;
        final int[] besideWorks = new int[3];
        final Siegelines x = Fields.plain(5, 5);

        Fight(Random random) {
            int[][] works = {{0, 3, 4, 6, 7, 0}, {0, 5, 6, 7, 5, 0}};
            side = random.nextInt(2);
            work = works[side][random.nextInt(6)];
            hour = 1 + random.nextInt(9);
            men = new int[2 + random.nextInt(4)];
            tired = new int[men.length];
            orders = new int[men.length];
            x.ground(GOAL, 1, 0, work, 9);
            for (int i = 0; i < 3; i++) {
                besideWorks[i] = random.nextInt(3) > 0 ? 0 : side == 0 ? 4 : 5;
                x.ground(BESIDE[i], 0, 0, besideWorks[i], 0);
            }
            for (int s = 0; s <= 1; s++) {
                morale[s] = 1 + random.nextInt(100);
                x.stores(s, 0, 999, 2 * random.nextInt(9), morale[s]);
            }
            for (int c = 0; c < men.length; c++) {
                men[c] = 1 + random.nextInt(random.nextInt(3) == 0 ? 9 : 200);
                men[c] = c == 0 ? Math.min(200, men[c] * 3) : men[c];
                x.company(c == 0 ? side : 1 - side, c == 0 ? FROM : GOAL, men[c]);
            }
            x.company(side, side == 0 ? 0 : 24, 200);
            x.company(1 - side, side == 0 ? 24 : 0, 200);
            x.gun(1 - side, work == 6 || work == 7 ? 24 - side * 24 : GOAL, 1);
            x.begin();
            for (int c = 0; c < men.length; c++) {
                tired[c] = random.nextInt(2) * hour;
                x.order(c, tired[c] > 0 ? 3 : 0, 0);
            }
            x.pass(hour);
            for (int c = 1; c < men.length; c++) {
                orders[c] = new int[] {0, 0, 0, 2, 4}[random.nextInt(5)];
                x.order(c, orders[c], GOAL);
            }
            for (int c = 0; c < men.length; c++) {
                tired[c] = x.ofCompany(c, 3);
            }
        }

        private int force(int c, int more) {
            return men[c] * (14 - tired[c] - more) * (morale[c == 0 ? side : 1 - side] + 50);
        }

        private int defence() {
            int force = 0;
            boolean isGuarded = false;
            for (int c = 1; c < men.length; c++) {
                force += force(c, 0);
                isGuarded = isGuarded || orders[c] == 2 && tired[c] < 10;
            }
            force *= work == 3 || work == 4 ? 3 : work == 5 || work == 6 ? 2 : 1;
            return isGuarded ? force * 3 / 2 : force;
        }

        private int attack(int more) {
            return hour <= 4 ? force(0, more) * 5 / 4 : force(0, more);
        }

        private int refuge() {
            for (int i = 0; i < 3; i++) {
                if (besideWorks[i] != 0) {
                    return BESIDE[i];
                }
            }
            return -1;
        }

        /** Whether the attacker won. */
        boolean fought(int number) {
            String name = name("fight", number);
            checks.due(name + " asked", attack(0) - defence(), x.storm(0, GOAL));
            int had = x.ofSide(0, 2);
            x.order(0, 5, GOAL);
            boolean wins = attack(1) > defence();
            x.pass(1);
            int[] lost = new int[2];
            int own = wins ? men[0] / 8 : Math.max(1, men[0] / 4);
            lost[side] = own;
            checks.due(name + " attacker's men", men[0] - own, x.ofCompany(0, 2));
            checks.due(name + " attacker's square", wins ? GOAL : FROM, x.ofCompany(0, 1));
            checks.due(name + " attacker's order", 0, x.ofCompany(0, 4));
            for (int c = 1; c < men.length; c++) {
                int loss = wins ? Math.max(1, men[c] / 4) : men[c] / 8;
                if (wins && refuge() < 0) {
                    loss += (men[c] - loss) / 2;
                }
                lost[1 - side] += loss;
                boolean flees = wins && loss < men[c];
                int home = side == 0 ? 24 : 0;
                checks.due(name + " men of " + c, men[c] - loss, x.ofCompany(c, 2));
                checks.due(name + " square of " + c, !flees ? GOAL : refuge() < 0 ? home : refuge(), x.ofCompany(c, 1));
                if (flees || loss == men[c] && orders[c] != 4) {
                    checks.due(name + " order of " + c, flees ? 0 : orders[c], x.ofCompany(c, 4));
                }
            }
            for (int s = 0; s <= 1; s++) {
                checks.due(name + " losses", lost[s], x.ofSide(s, 9));
                boolean isWinner = (s == side) == wins;
                checks.due(name + " fights", isWinner ? 1 : 0, x.ofSide(s, 10));
                checks.due(name + " morale", Math.max(0, Math.min(100, morale[s] + (isWinner ? 4 : -4))), x.ofSide(s, 3));
            }
            boolean isThrownIn = wins && side == 1 && work == 5;
            checks.due(name + " work", isThrownIn ? 0 : work, x.ofSquare(GOAL, 2));
            checks.due(name + " gabions", isThrownIn ? had / 2 : had, x.ofSide(0, 2));
            checks.due(name + " gun", wins && x.ofGun(0, 1) == GOAL ? 2 : 0, x.ofGun(0, 5));
            return wins;
        }
    }

    /** "A quarter of the MEN less (rounded down, 1 at least), who wins an eighth (likewise, but 0 is let)". */
    private static void quarterAndEighth() {
        int[] men = {1, 2, 3, 4, 5, 7, 8, 9, 11, 12, 15, 16, 17, 199, 200};
        for (int m : men) {
            Siegelines lost = Fields.plain(5, 5);
            lost.ground(7, 0, 0, 4, 0);
            lost.company(0, FROM, 200);
            lost.company(0, FROM, 200);
            lost.company(1, GOAL, m);
            lost.company(1, 24, 9);
            lost.stores(0, 0, 99, 0, 100);
            lost.begin();
            lost.order(0, 5, GOAL);
            lost.pass(1);
            checks.due(name("left of a loser", m), m - Math.max(1, m / 4), lost.ofCompany(2, 2));
            checks.due("where it is", m == 1 ? GOAL : 7, lost.ofCompany(2, 1));
            Siegelines held = Fields.plain(5, 5);
            held.company(0, FROM, 1);
            held.company(1, GOAL, m);
            held.company(1, GOAL, 9);
            held.company(0, 0, 9);
            held.begin();
            held.order(0, 5, GOAL);
            held.pass(1);
            checks.due(name("left of a winner", m), m - m / 8, held.ofCompany(1, 2));
            checks.due("it stays", GOAL, held.ofCompany(1, 1));
        }
    }

    /** "Without one they have half of the MEN that are left less again (rounded down), and go to CAMP or GATE". */
    private static void halfWithoutRefuge() {
        for (int side = 0; side <= 1; side++) {
            int[] men = {1, 2, 3, 4, 5, 6, 7, 8, 9, 100};
            int[] left = {0, 1, 1, 2, 2, 3, 3, 3, 4, 38};
            for (int i = 0; i < men.length; i++) {
                Siegelines x = Fields.plain(5, 5);
                x.stores(side, 0, 99, 0, 100);
                x.company(side, FROM, 200);
                x.company(1 - side, GOAL, men[i]);
                x.company(1 - side, side == 0 ? 24 : 0, 9);
                x.begin();
                x.order(0, 5, GOAL);
                x.pass(1);
                checks.due(name("left without a refuge", side, men[i]), left[i], x.ofCompany(1, 2));
                checks.due("losses", men[i] - left[i], x.ofSide(1 - side, 9));
                checks.due("where it is", men[i] == 1 ? GOAL : side == 0 ? 24 : 0, x.ofCompany(1, 1));
            }
        }
    }

    /** "The first SQUARE, by numbers, that TOUCHES the GOAL, belongs to their own SIDE": above, left, right, below. */
    private static void firstRefugeByNumbers() {
        int[] order = {7, 11, 13, 17};
        for (int side = 0; side <= 1; side++) {
            for (int from : order) {
                for (int first = 0; first < 4; first++) {
                    if (order[first] == from) {
                        continue;
                    }
                    Siegelines x = Fields.plain(5, 5);
                    for (int i = first; i < 4; i++) {
                        if (order[i] != from) {
                            x.ground(order[i], 0, 0, side == 0 ? 3 : 5, 0);
                        }
                    }
                    x.company(side, from, 200);
                    x.company(1 - side, GOAL, 8);
                    x.company(1 - side, side == 0 ? 24 : 0, 9);
                    x.begin();
                    x.order(0, 5, GOAL);
                    x.pass(1);
                    checks.due(name("refuge", side, from, first), order[first], x.ofCompany(1, 1));
                    checks.due("a quarter less", 6, x.ofCompany(1, 2));
                    checks.due("at rest", 0, x.ofCompany(1, 4));
                }
            }
        }
    }

    /** A COVER at the end of the row above TOUCHES nothing at a row's begin, nor one aslant. */
    private static void refugeNotOverTheRow() {
        int[][] ends = {{10, 9}, {14, 15}, {10, 6}, {14, 18}};
        for (int[] end : ends) {
            Siegelines x = Fields.plain(5, 5);
            x.ground(end[1], 0, 0, 4, 0);
            x.company(0, end[0] == 10 ? 11 : 13, 200);
            x.company(1, end[0], 8);
            x.company(1, 24, 9);
            x.begin();
            x.order(0, 5, end[0]);
            x.pass(1);
            checks.due(name("no refuge", end), 24, x.ofCompany(1, 1));
            checks.due("half of 6", 3, x.ofCompany(1, 2));
        }
    }

    /** "4 more for who wins a FIGHT; .. 100 at most". */
    private static void moraleUpToHundred() {
        int[] morales = {95, 96, 97, 100};
        for (int side = 0; side <= 1; side++) {
            for (int morale : morales) {
                Siegelines x = Fields.plain(5, 5);
                x.stores(side, 0, 99, 0, morale);
                x.company(side, FROM, 200);
                x.company(1 - side, GOAL, 8);
                x.company(1 - side, side == 0 ? 24 : 0, 9);
                x.begin();
                x.order(0, 5, GOAL);
                x.pass(1);
                checks.due(name("morale of who wins", side, morale), Math.min(100, morale + 4), x.ofSide(side, 3));
                checks.due("of who loses", 56, x.ofSide(1 - side, 3));
            }
        }
    }

    /** "4 less for who loses it; .. 0 at least": besiegers with 0 are LIFTED at once, with 1 they are not. */
    private static void moraleDownToNone() {
        for (int side = 0; side <= 1; side++) {
            for (int morale = 1; morale <= 6; morale++) {
                Siegelines x = Fields.plain(5, 5);
                x.stores(1 - side, 0, 99, 0, morale);
                x.company(side, FROM, 200);
                x.company(1 - side, GOAL, 8);
                x.company(1 - side, side == 0 ? 24 : 0, 9);
                x.begin();
                x.order(0, 5, GOAL);
                x.pass(1);
                checks.due(name("morale of who loses", side, morale), Math.max(0, morale - 4), x.ofSide(1 - side, 3));
                boolean isLifted = side == 1 && morale <= 4;
                checks.due("whether it is over", isLifted ? 2 : 1, x.ofSiege(1));
                checks.due("the clock", isLifted ? 0 : 1, x.ofSiege(0));
                checks.due("no honours", -1, x.ofSiege(2));
            }
        }
    }

    /** "Or nobody of the other SIDE is there": no FIGHT; own ones there and one that is GONE do not matter. */
    private static void nobodyIsThere() {
        for (int side = 0; side <= 1; side++) {
            Siegelines x = Fields.plain(5, 5);
            x.stores(1, 0, 99, 0, 60);
            x.company(side, FROM, 1);
            x.company(side, GOAL, 100);
            x.company(0, 0, 9);
            x.company(1, 24, 9);
            x.begin();
            x.order(0, 5, GOAL);
            x.pass(1);
            checks.due("there", GOAL, x.ofCompany(0, 1));
            checks.due("no fight", 0, x.ofSide(0, 10) + x.ofSide(1, 10));
            checks.due("no losses", 0, x.ofSide(0, 9) + x.ofSide(1, 9));
            checks.due("morale", 120, x.ofSide(0, 3) + x.ofSide(1, 3));
        }
    }

    /** "READY GUNS of the other SIDE there are SPIKED": all of them, own ones not, and no others. */
    private static void spikedAlone() {
        for (int side = 0; side <= 1; side++) {
            Siegelines x = Fields.plain(5, 5);
            x.gun(1 - side, GOAL, 1);
            x.gun(side, GOAL, 1);
            x.gun(1 - side, GOAL, 3);
            x.gun(1 - side, 13, 1);
            x.company(side, FROM, 100);
            x.company(1 - side, side == 0 ? 24 : 0, 9);
            x.begin();
            x.aim(0, 12);
            x.order(0, 5, GOAL);
            x.pass(1);
            int[] states = {2, 0, 2, 0};
            for (int gun = 0; gun < 4; gun++) {
                checks.due(name("state of a gun", side, gun), states[gun], x.ofGun(gun, 5));
            }
            checks.due("its aim stays", 12, x.ofGun(0, 6));
            checks.due("its hits", 0, x.ofGun(0, 4));
        }
    }

    /** "No WORK any more, half of the GABIONS of the SIDE 0 are gone": none of none; not by the besiegers. */
    private static void gabionsThrownIn() {
        int[] gabions = {0, 2, 4, 10, 998};
        for (int had : gabions) {
            Siegelines x = Fields.plain(5, 5);
            x.ground(GOAL, 2, 1, 5, 0);
            x.stores(0, 0, 99, had, 60);
            x.stores(1, 0, 99, had, 60);
            x.company(1, FROM, 100);
            x.company(0, 0, 9);
            x.begin();
            checks.due("a trench", 1, x.ofSiege(11));
            x.order(0, 5, GOAL);
            x.pass(1);
            checks.due(name("gabions that are left", had), had / 2, x.ofSide(0, 2));
            checks.due("those of the garrison", had, x.ofSide(1, 2));
            checks.due("no trench", 0, x.ofSiege(11));
            checks.due("no work", 0, x.ofSquare(GOAL, 2));
            checks.due("its height", 2, x.ofSquare(GOAL, 0));
            checks.due("its soil", 1, x.ofSquare(GOAL, 1));
            checks.due("no toil", 0, x.ofSquare(GOAL, 4));
        }
        Siegelines y = Fields.plain(5, 5);
        y.ground(GOAL, 0, 0, 5, 0);
        y.stores(0, 0, 99, 10, 60);
        y.company(0, FROM, 100);
        y.company(1, 24, 9);
        y.begin();
        y.order(0, 5, GOAL);
        y.pass(1);
        checks.due("besiegers do not throw it in", 5, y.ofSquare(GOAL, 2));
        checks.due("their gabions", 10, y.ofSide(0, 2));
    }

    /** "If a COMPANY of the SIDE 0 is on GATE (it is STORMED; PEOPLE are half of what they were)": empty or not. */
    private static void stormOfGate() {
        int[] people = {0, 1, 2, 3, 2000};
        for (int p : people) {
            for (int work = 0; work <= 4; work++) {
                if (work == 1 || work == 2) {
                    continue;
                }
                Siegelines x = Fields.plain(5, 5);
                x.ground(24, 0, 0, work, 0);
                x.town(p, 0, 10);
                x.company(0, 23, 1);
                x.company(1, 12, 9);
                x.begin();
                x.order(0, 5, 24);
                x.order(1, 3, 0);
                x.pass(48);
                checks.due("over", 2, x.ofSiege(1));
                checks.due("honours", 0, x.ofSiege(2));
                checks.due(name("people", p, work), p / 2, x.ofSiege(5));
                checks.due("the clock", 0, x.ofSiege(0));
                checks.due("what is left of the hour does not come", 0, x.ofCompany(1, 3));
            }
        }
        Siegelines won = Fields.plain(5, 5);
        won.company(1, 1, 9);
        won.company(0, 12, 9);
        won.company(1, 24, 9);
        won.begin();
        won.order(0, 5, 0);
        won.pass(1);
        checks.due("the garrison on camp ends nothing", 1, won.ofSiege(1));
        checks.due("it is there", 0, won.ofCompany(0, 1));
    }

    /** "NONE, if it could not STORM that, or is GONE"; (TIRED as it is, also of 10 or more). */
    private static void stormAsked() {
        Siegelines x = Fields.plain(5, 5);
        x.company(0, FROM, 10);
        x.company(1, GOAL, 1);
        x.company(1, 24, 9);
        x.begin();
        x.order(0, 3, 0);
        x.pass(10);
        checks.due("tired of 10", 10 * 4 * 110 - 14 * 110, x.storm(0, GOAL));
        checks.due("against nobody", 10 * 4 * 110, x.storm(0, 10));
        checks.due("the garrison's", 14 * 110 - 10 * 4 * 110, x.storm(1, FROM));
        checks.due("its own square", -1, x.storm(0, FROM));
        Siegelines gone = Fields.plain(5, 5);
        gone.company(0, FROM, 1);
        gone.company(1, GOAL, 200);
        gone.company(0, 0, 9);
        gone.begin();
        gone.order(0, 5, GOAL);
        gone.pass(1);
        checks.due("gone", -1, gone.storm(0, GOAL));
        checks.due("against one that is gone", 175 * 14 * 114 * 5 / 4, gone.storm(1, FROM));
    }
}

import java.util.Random;

/** Parts 1 and 2: the bounds of the ground and of sight; promises 2 to 4 and 22 to 24. */
final class GroundEdgesTest {
    private static final Checks checks = new Checks("GroundEdgesTest");
    private static final int[] ALL_WORKS = {0, 0, 0, 1, 2, 3, 4, 5, 5, 6, 7};

    public static void main(String[] args) {
        mapsOfEachSize();
        mapsOfEachSeed();
        squaresByRows();
        ditchEndsWithItsRow();
        heightAndFirm();
        countsOfWorks();
        farOfBoth();
        campTakesNoWork();
        owners();
        topsOfLowestAndHighest();
        sightByDayAndNight();
        sightOnAnyGround();
        farthestByDayAndNight();
        nightBeginsAndEnds();
        nextSquareIsNeverHidden();
        justHidden();
        endsDoNotHide();
        trenchIsLowOnAnySquare();
        linesRoundedBelowZero();
        rakedOnAnyGround();
        rakedAtTheEdge();
        rakedByNightAndDay();
        menOnSquares();
        checks.end();
    }

    /** "A MAP is WIDE and HIGH (5 to 12)", and the fort "as far as they are on the MAP". */
    private static void mapsOfEachSize() {
        for (int wide = 5; wide <= 12; wide++) {
            for (int high = 5; high <= 12; high++) {
                laid(wide, high, (7 * wide + high) % 100);
            }
        }
    }

    /** "0 to 99: a row of numbers". */
    private static void mapsOfEachSeed() {
        for (int seed = 0; seed <= 100; seed++) {
            laid(6 + seed % 3, 7 - seed % 2, seed);
        }
    }

    private static void laid(int wide, int high, int seed) {
        String name = "lay(" + wide + ", " + high + ", " + seed + ")";
        Terrain t = Terrain.laid(wide, high, seed);
        Siegelines x = new Siegelines();
        int walls = 0;
        for (int square = 0; square < t.count; square++) {
            walls += t.work[square] == 1 ? 1 : 0;
        }
        checks.due(name, walls, x.lay(wide, high, seed));
        for (int row = 0; row < high; row++) {
            StringBuilder signs = new StringBuilder();
            for (int column = 0; column < wide; column++) {
                signs.append(".#~Tc=/u".charAt(t.work[row * wide + column]));
            }
            checks.due(name + " row " + row, signs.toString(), x.row(row));
        }
        for (int square = 0; square < t.count; square++) {
            checks.due(name + " height of " + square, t.height[square], x.ofSquare(square, 0));
            checks.due(name + " soil of " + square, t.soil[square], x.ofSquare(square, 1));
            checks.due(name + " owner of " + square, t.owner(square), x.ofSquare(square, 7));
        }
        laidWalls(name, t, seed);
        checks.refuses(name + " has no square more", Checks.INDEX, x, () -> x.ofSquare(t.count, 0));
        checks.refuses(name + " has no row more", Checks.INDEX, x, () -> x.row(high).length());
    }

    /** "The ring is WALL, FIRM 40"; CAMP and GATE are where a muster is held. */
    private static void laidWalls(String name, Terrain t, int seed) {
        Siegelines x = new Siegelines();
        x.lay(t.wide, t.high, seed);
        for (int square = 0; square < t.count; square++) {
            checks.due(name + " firm of " + square, t.work[square] == 1 ? 40 : 0, x.ofSquare(square, 3));
            checks.due(name + " toil of " + square, 0, x.ofSquare(square, 4));
        }
        x.muster(0);
        checks.due(name + " camp", 0, x.ofCompany(0, 1));
        checks.due(name + " gate", t.gate, x.ofCompany(4, 1));
        checks.refuses(name + " no wall on gate", Checks.ARGUMENT, x, () -> x.ground(t.gate, 0, 0, 1, 9));
    }

    /** "Its SQUARES are numbered row by row from above, each row from the left on, from 0". */
    private static void squaresByRows() {
        for (int square = 1; square < 34; square++) {
            Siegelines x = Fields.plain(7, 5);
            x.ground(square, 0, 0, 5, 0);
            for (int row = 0; row < 5; row++) {
                checks.due("where " + square + " is in row " + row, row == square / 7 ? square % 7 : -1,
                        x.row(row).indexOf('='));
            }
        }
    }

    /** "Two SQUARES TOUCH, if they lie side by side or one above the other": not from a row's end to the next one. */
    private static void ditchEndsWithItsRow() {
        Siegelines x = new Siegelines();
        x.lay(9, 9, 3);
        checks.due("a wall at the row's end", '#', x.row(4).charAt(8));
        checks.due("no ditch at the next row's begin", '.', x.row(5).charAt(0));
        checks.due("nor there below", '.', x.row(8).charAt(0));
        checks.due("the last square is a wall", '#', x.row(8).charAt(8));
        x.lay(9, 12, 3);
        checks.due("a ditch below the fort", "....~~~~~", x.row(9));
        checks.due("and nothing more", ".........", x.row(10));
    }

    /** "A HEIGHT (0 to 9), a SOIL (0 to 3)"; "a WALL is FIRM (1 to 99)", others 0. */
    private static void heightAndFirm() {
        Siegelines x = Fields.plain(5, 5);
        int[][] edges = {{0, 0, 1}, {9, 3, 99}, {0, 3, 98}, {9, 0, 2}};
        for (int[] edge : edges) {
            x.ground(12, edge[0], edge[1], 1, edge[2]);
            checks.due("height", edge[0], x.ofSquare(12, 0));
            checks.due("soil", edge[1], x.ofSquare(12, 1));
            checks.due("firm", edge[2], x.ofSquare(12, 3));
            checks.due("toil", 0, x.ofSquare(12, 4));
            for (int work = 0; work <= 7; work++) {
                if (work != 1) {
                    x.ground(12, edge[0], edge[1], work, edge[2]);
                    checks.due("what is no wall is firm 0", 0, x.ofSquare(12, 3));
                    checks.due("its work", work, x.ofSquare(12, 2));
                }
            }
        }
    }

    /** "Returns how many SQUARES have that WORK then": from one to all. */
    private static void countsOfWorks() {
        for (int work = 1; work <= 7; work++) {
            Siegelines x = Fields.plain(5, 5);
            for (int square = 1; square <= 23; square++) {
                checks.due("squares of work " + work, square, x.ground(square, 0, 0, work, 7));
                checks.due("told again", square, x.ground(square, 1, 1, work, 8));
            }
            checks.due("without work: camp, gate and this one", 3, x.ground(23, 0, 0, 0, 0));
            checks.due("gate again", 3, x.ground(24, 5, 1, 0, 0));
        }
    }

    /** "FAR of two SQUARES is the greater one of how many columns and how many rows they are apart". */
    private static void farOfBoth() {
        Terrain t = Terrain.laid(6, 5, 100);
        for (int camp = 0; camp < 30; camp++) {
            Siegelines x = Fields.plain(6, 5);
            for (int gate = 0; gate < 30; gate++) {
                if (camp != gate) {
                    checks.due("far of " + camp + " and " + gate, t.far(camp, gate), x.camp(camp, gate));
                    checks.due("camp", 0, x.ofSquare(camp, 7));
                    checks.due("gate", 1, x.ofSquare(gate, 7));
                }
            }
        }
    }

    /** "CAMP has a WORK, or GATE one of 1, 2, 5, 6 or 7": each work, at once behind a ground() that tells it. */
    private static void campTakesNoWork() {
        for (int work = 0; work <= 7; work++) {
            int told = work;
            Siegelines x = Fields.plain(5, 5);
            x.ground(12, 0, 0, work, 9);
            boolean isFree = work == 0;
            boolean isGate = work == 0 || work == 3 || work == 4;
            if (isGate) {
                checks.due("gate on work " + told, 2, x.camp(0, 12));
                x.camp(0, 24);
            } else {
                checks.refuses("gate on work " + told, Checks.ARGUMENT, x, () -> x.camp(0, 12));
            }
            if (isFree) {
                checks.due("camp on work " + told, 2, x.camp(12, 24));
            } else {
                checks.refuses("camp on work " + told, Checks.ARGUMENT, x, () -> x.camp(12, 24));
            }
        }
    }

    /** "A SQUARE belongs to the SIDE 1 ..; to the SIDE 0 ..; to nobody otherwise". */
    private static void owners() {
        int[] owners = {-1, 1, -1, 1, 1, 0, -1, -1};
        for (int work = 0; work <= 7; work++) {
            Siegelines x = Fields.plain(5, 5);
            x.ground(12, 0, 0, work, 9);
            checks.due("owner of work " + work, owners[work], x.ofSquare(12, 7));
            if (work == 0 || work == 3 || work == 4) {
                x.camp(0, 12);
                checks.due("gate is the garrison's, whatever its work", 1, x.ofSquare(12, 7));
            }
        }
    }

    /** "TOP of a SQUARE is 2 * HEIGHT, and 6 more ..", "BODY is TOP and 1, but TOP less 2 for a TRENCH". */
    private static void topsOfLowestAndHighest() {
        int[] more = {0, 6, -4, 4, 2, 0, 2, -2};
        Siegelines x = Fields.plain(5, 5);
        for (int height = 0; height <= 9; height++) {
            for (int work = 0; work <= 7; work++) {
                x.ground(6, height, 0, work, 9);
                int top = 2 * height + more[work];
                checks.due("top of work " + work + " of height " + height, top, x.ofSquare(6, 5));
                checks.due("body of it", work == 5 ? top - 2 : top + 1, x.ofSquare(6, 6));
            }
        }
    }

    /** Sight from each square to each other one of maps that are laid, by night and by day. */
    private static void sightByDayAndNight() {
        int[][] maps = {{12, 12, 0}, {5, 5, 99}, {10, 7, 42}, {7, 10, 5}};
        for (int[] map : maps) {
            Terrain t = Terrain.laid(map[0], map[1], map[2]);
            for (int a = 0; a < t.count; a++) {
                Siegelines x = new Siegelines();
                x.lay(map[0], map[1], map[2]);
                x.muster(1);
                x.begin();
                compareSight(t, x, a, 4);
                x.pass(5);
                compareSight(t, x, a, 9);
            }
        }
    }

    private static void sightOnAnyGround() {
        Random random = new Random(1);
        for (int i = 0; i < 30; i++) {
            Terrain t = Terrain.random(5 + random.nextInt(4), 5 + random.nextInt(4), random, ALL_WORKS);
            for (int a = 0; a < t.count; a += 3) {
                Siegelines x = t.told();
                x.company(0, 0, 1);
                x.company(1, t.gate, 1);
                x.begin();
                compareSight(t, x, a, 4);
                x.pass(19);
                compareSight(t, x, a, 9);
            }
        }
    }

    private static void compareSight(Terrain t, Siegelines x, int a, int sight) {
        for (int b = 0; b < t.count; b++) {
            checks.due("whether " + b + " is seen from " + a + " on " + t.wide + " by " + t.high,
                    t.sees(a, b, sight) ? 1 : 0, x.sees(a, b) ? 1 : 0);
        }
    }

    /** "FAR of both is no more than 4 by NIGHT, 9 by day", by columns, by rows and aslant. */
    private static void farthestByDayAndNight() {
        int[] steps = {1, 12, 13};
        for (int step : steps) {
            Siegelines x = Fields.begun(12, 12);
            for (int far = 0; far <= 11; far++) {
                checks.due("by night " + far + " by " + step, far <= 4 ? 1 : 0, x.sees(0, far * step) ? 1 : 0);
                checks.due("and back", far <= 4 ? 1 : 0, x.sees(far * step, 0) ? 1 : 0);
            }
            x.pass(5);
            for (int far = 0; far <= 11; far++) {
                checks.due("by day " + far + " by " + step, far <= 9 ? 1 : 0, x.sees(0, far * step) ? 1 : 0);
                checks.due("and back", far <= 9 ? 1 : 0, x.sees(far * step, 0) ? 1 : 0);
            }
        }
    }

    /** "It is NIGHT from 20 to 23 and from 0 to 4", each day. */
    private static void nightBeginsAndEnds() {
        Siegelines x = Fields.begun(9, 5);
        for (int hour = 0; hour <= 72; hour++) {
            int ofDay = hour % 24;
            checks.due("sight at hour " + hour, ofDay >= 5 && ofDay <= 19 ? 1 : 0, x.sees(0, 5) ? 1 : 0);
            x.pass(1);
        }
        checks.holds("by night ahead of the siege", Fields.plain(9, 5).sees(0, 4));
        checks.fails("and no farther", Fields.plain(9, 5).sees(0, 5));
    }

    /** "For k of 1 to n - 1": with n of 1 nothing is between, with 0 it is the same square. */
    private static void nextSquareIsNeverHidden() {
        Siegelines x = Fields.plain(5, 5);
        for (int square = 1; square < 24; square++) {
            x.ground(square, square % 2 * 9, 0, square % 2 == 0 ? 2 : 1, 9);
        }
        int[] besides = {6, 7, 8, 11, 12, 13, 16, 17, 18};
        for (int b : besides) {
            checks.holds("from 12 to " + b, x.sees(12, b));
            checks.holds("from " + b + " to 12", x.sees(b, 12));
        }
        for (int square = 0; square < 25; square++) {
            checks.holds("one sees where one is", x.sees(square, square));
        }
    }

    /** "If its TOP times n is above EYE of a times (n - k) and BODY of b times k, together": as much does not hide. */
    private static void justHidden() {
        int hidden = 0;
        int even = 0;
        for (int from = 0; from <= 9; from++) {
            for (int between = 0; between <= 9; between++) {
                for (int to = 0; to <= 9; to++) {
                    for (int work = 0; work <= 5; work += 5) {
                        Siegelines x = Fields.plain(5, 5);
                        x.ground(10, from, 0, 0, 0);
                        x.ground(11, between, 0, 0, 0);
                        x.ground(12, to, 0, work, 0);
                        int line = 2 * from + 2 + 2 * to + (work == 5 ? -2 : 1);
                        checks.due("2 * " + 2 * between + " against " + line, 4 * between > line ? 0 : 1,
                                x.sees(10, 12) ? 1 : 0);
                        hidden += 4 * between > line ? 1 : 0;
                        even += 4 * between == line ? 1 : 0;
                    }
                }
            }
        }
        checks.holds("some are hidden, some just not", hidden > 0 && even > 0);
    }

    /** Neither the square from which one sees nor the one that is seen hides. */
    private static void endsDoNotHide() {
        Siegelines x = Fields.plain(5, 5);
        x.ground(10, 9, 0, 1, 9);
        checks.holds("from a wall", x.sees(10, 14));
        checks.holds("to a wall", x.sees(14, 10));
        checks.holds("to the wall over two squares", x.sees(12, 10));
        x.ground(11, 9, 0, 1, 9);
        checks.fails("but not over one", x.sees(14, 10));
    }

    /** "BODY is TOP and 1, but TOP less 2 for a TRENCH": on each SQUARE, the first and the last one too. */
    private static void trenchIsLowOnAnySquare() {
        for (int square = 0; square < 25; square++) {
            int step = square % 5 < 2 ? 1 : -1;
            for (int work : new int[] {0, 5}) {
                Siegelines x = Fields.plain(5, 5);
                x.camp((square + 7) % 25, (square + 12) % 25);
                x.ground(square, 1, 0, work, 0);
                x.ground(square + step, 1, 0, 0, 0);
                checks.due("body of work " + work + " on " + square, work == 5 ? 0 : 3, x.ofSquare(square, 6));
                checks.due("whether work " + work + " on " + square + " is seen", work == 5 ? 0 : 1,
                        x.sees(square + 2 * step, square) ? 1 : 0);
            }
        }
    }

    /** "(Both rounded down, also below 0)": a line to the left or upwards is not the one to the right, mirrored. */
    private static void linesRoundedBelowZero() {
        int[][] lines = {{10, 22, 16}, {14, 22, 18}, {22, 10, 16}, {22, 14, 18}, {2, 10, 6}, {2, 14, 8}, {10, 2, 6},
            {14, 2, 8}};
        for (int[] line : lines) {
            Siegelines x = Fields.plain(5, 5);
            x.ground(line[2], 9, 0, 0, 0);
            checks.fails(line[2] + " is between " + line[0] + " and " + line[1], x.sees(line[0], line[1]));
        }
        int[][] halves = {{10, 7, 6, 11}, {7, 10, 11, 6}, {14, 7, 8, 13}, {10, 17, 16, 11}, {2, 11, 7, 6}, {13, 2, 7, 8},
            {12, 1, 6, 7}, {12, 3, 8, 7}};
        Terrain t = Terrain.laid(5, 5, 100);
        for (int[] half : halves) {
            for (int i = 2; i <= 3; i++) {
                Siegelines x = Fields.plain(5, 5);
                x.ground(half[i], 9, 0, 0, 0);
                t.height[half[i]] = 9;
                checks.due("whether " + half[i] + " is between " + half[0] + " and " + half[1],
                        t.sees(half[0], half[1], 9) ? 1 : 0, x.sees(half[0], half[1]) ? 1 : 0);
                t.height[half[i]] = 0;
            }
        }
    }

    /** "A TRENCH is RAKED from a SQUARE a that SEES it, if the SQUARE next behind it in the line from a is a TRENCH". */
    private static void rakedOnAnyGround() {
        Random random = new Random(2);
        int[] works = {0, 0, 5, 5, 5, 5, 7};
        int raked = 0;
        for (int i = 0; i < 60; i++) {
            Terrain t = Terrain.random(5 + i % 3, 5 + i % 2, random, works);
            Siegelines x = t.told();
            int[] squares = new int[3];
            for (int gun = 0; gun < 6; gun++) {
                int square = gun < 3 ? random.nextInt(t.count - 1) : squares[gun - 3];
                squares[gun % 3] = square;
                if (t.work[square] != 7) {
                    x.gun(0, square, 1 + gun % 3);
                }
            }
            for (int square = 0; square < t.count; square++) {
                int seeing = 0;
                int raking = 0;
                for (int gun = 0; gun < 3; gun++) {
                    boolean isGun = t.work[squares[gun]] != 7;
                    boolean isFirst = gun == 0 || squares[gun] != squares[0] && (gun == 1 || squares[2] != squares[1]);
                    seeing += isGun && t.sees(squares[gun], square, 4) ? 2 : 0;
                    raking += isGun && isFirst && t.rakes(squares[gun], square, 4) ? 1 : 0;
                }
                checks.due("guns that see " + square, seeing, x.underFire(square, 0, 0));
                checks.due("squares that rake " + square, raking, x.underFire(square, 0, 1));
                checks.due("none of the other side", 0, x.underFire(square, 1, 0) + x.underFire(square, 1, 1));
                raked += raking;
            }
        }
        checks.holds("some trenches are raked", raked > 20);
    }

    /** "As far as it is on the MAP (a and b different)": behind an edge is nothing, nor at the next row's begin. */
    private static void rakedAtTheEdge() {
        int[][] edges = {{12, 14, 15}, {12, 10, 9}, {12, 2, 22}, {12, 22, 2}, {13, 14, 20}, {6, 5, 4}, {12, 20, 24},
            {12, 4, 0}};
        for (int[] edge : edges) {
            Siegelines x = Fields.plain(5, 5);
            x.camp(16, 23);
            x.ground(edge[0], 3, 0, 0, 0);
            x.ground(edge[1], 0, 0, 5, 0);
            x.ground(edge[2], 0, 0, 5, 0);
            x.gun(0, edge[0], 1);
            checks.holds(edge[1] + " is seen", x.sees(edge[0], edge[1]));
            checks.due("but not raked", 0, x.underFire(edge[1], 0, 1));
        }
        Siegelines same = Fields.plain(5, 5);
        for (int square = 1; square < 24; square++) {
            same.ground(square, 0, 0, 5, 0);
        }
        same.gun(0, 12, 1);
        checks.due("not from itself", 0, same.underFire(12, 0, 1));
        checks.due("but the one beside it", 1, same.underFire(13, 0, 1));
        checks.due("not the last one", 0, same.underFire(14, 0, 1));
    }

    /** By night it is RAKED from 4 far, by day from 9. */
    private static void rakedByNightAndDay() {
        for (int far = 3; far <= 10; far++) {
            Siegelines x = Fields.plain(12, 5);
            x.ground(12, 9, 0, 0, 0);
            x.ground(12 + far, 0, 0, 5, 0);
            x.ground(13 + far, 0, 0, 5, 0);
            x.gun(0, 12, 1);
            x.company(0, 0, 1);
            x.company(1, 59, 1);
            x.begin();
            checks.due("by night " + far + " far", far <= 4 ? 1 : 0, x.underFire(12 + far, 0, 1));
            x.pass(5);
            checks.due("by day " + far + " far", far <= 9 ? 1 : 0, x.underFire(12 + far, 0, 1));
            checks.due("guns that see it by day", far <= 9 ? 1 : 0, x.underFire(12 + far, 0, 0));
        }
    }

    /** "8 MEN of the SIDE 0 there, 9 MEN of the SIDE 1 there": nobody, one man, and all twelve. */
    private static void menOnSquares() {
        Siegelines x = Fields.plain(5, 5);
        checks.due("nobody", 0, x.ofSquare(12, 8) + x.ofSquare(12, 9));
        x.company(0, 12, 1);
        checks.due("one man", 1, x.ofSquare(12, 8));
        for (int number = 1; number < 12; number++) {
            x.company(number % 2, 12, 200);
        }
        checks.due("1 and 1000", 1001, x.ofSquare(12, 8));
        checks.due("1200", 1200, x.ofSquare(12, 9));
        checks.due("not beside it", 0, x.ofSquare(11, 8) + x.ofSquare(13, 9));
        checks.due("a sign of both", "..*..", x.row(2));
    }
}

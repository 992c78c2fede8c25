import java.util.ArrayDeque;
import java.util.Arrays;
import java.util.Deque;
import java.util.Random;

/** A map as the document tells it (parts 1 and 2), worked out apart from the class, to compare with it. */
final class Terrain {
    private static final int[] TOPS = {0, 6, -4, 4, 2, 0, 2, -2};

    final int wide;
    final int high;
    final int count;
    final int[] height;
    final int[] soil;
    final int[] work;
    int gate;

    private Terrain(int wide, int high) {
        this.wide = wide;
        this.high = high;
        count = wide * high;
        height = new int[count];
        soil = new int[count];
        work = new int[count];
        gate = count - 1;
    }

    /** "To lay a MAP by a SEED". */
    static Terrain laid(int wide, int high, int seed) {
        Terrain t = new Terrain(wide, high);
        if (seed == 100) {
            return t;
        }
        int[] drawn = Fields.drawn(seed, 2 * t.count);
        for (int square = 0; square < t.count; square++) {
            int d = drawn[2 * square + 1] % 10;
            t.height[square] = drawn[2 * square] % 3;
            t.soil[square] = d < 6 ? 0 : d < 8 ? 1 : d == 8 ? 2 : 3;
            int c = square % wide;
            int r = square / wide;
            if (c >= 4 && c <= 8 && r >= 4 && r <= 8) {
                boolean isRing = c == 4 || c == 8 || r == 4 || r == 8;
                t.work[square] = isRing ? 1 : 3;
                t.height[square] = isRing ? 4 : 3;
            }
        }
        for (int square = 0; square < t.count; square++) {
            for (int other = 0; other < t.count && t.work[square] == 0; other++) {
                if (t.work[other] == 1 && t.touch(square, other)) {
                    t.work[square] = 2;
                    t.height[square] = 0;
                }
            }
        }
        if (wide > 6 && high > 6) {
            t.gate = 6 * wide + 6;
        } else {
            t.work[t.gate] = 0;
        }
        return t;
    }

    /** All of any height, soil and work but for camp (0) and gate (the last square), with the calls that tell it. */
    static Terrain random(int wide, int high, Random random, int[] works) {
        Terrain t = new Terrain(wide, high);
        for (int square = 0; square < t.count; square++) {
            t.height[square] = random.nextInt(4);
            t.soil[square] = random.nextInt(4);
            t.work[square] = square == 0 || square == t.gate ? 0 : works[random.nextInt(works.length)];
        }
        return t;
    }

    /** An object to which this map is told. */
    Siegelines told() {
        Siegelines x = new Siegelines();
        x.lay(wide, high, 100);
        for (int square = 0; square < count; square++) {
            x.ground(square, height[square], soil[square], work[square], 50);
        }
        return x;
    }

    boolean touch(int a, int b) {
        return Math.abs(a % wide - b % wide) + Math.abs(a / wide - b / wide) == 1;
    }

    int far(int a, int b) {
        return Math.max(Math.abs(a % wide - b % wide), Math.abs(a / wide - b / wide));
    }

    int owner(int square) {
        int w = work[square];
        return w == 1 || w == 3 || w == 4 || square == gate ? 1 : w == 5 || square == 0 ? 0 : -1;
    }

    int top(int square) {
        return 2 * height[square] + TOPS[work[square]];
    }

    int body(int square) {
        return work[square] == 5 ? top(square) - 2 : top(square) + 1;
    }

    /** The square of k in the line from a to b, or -1. */
    private int inLine(int a, int b, int k) {
        int n = far(a, b);
        double columns = Math.floor((2.0 * k * (b % wide - a % wide) + n) / (2.0 * n));
        double rows = Math.floor((2.0 * k * (b / wide - a / wide) + n) / (2.0 * n));
        int c = a % wide + (int) columns;
        int r = a / wide + (int) rows;
        return c < 0 || c >= wide || r < 0 || r >= high ? -1 : r * wide + c;
    }

    boolean sees(int a, int b, int sight) {
        int n = far(a, b);
        for (int k = 1; k < n; k++) {
            if (top(inLine(a, b, k)) * n > (top(a) + 2) * (n - k) + body(b) * k) {
                return false;
            }
        }
        return n <= sight;
    }

    boolean rakes(int a, int b, int sight) {
        if (a == b || work[b] != 5 || !sees(a, b, sight)) {
            return false;
        }
        int behind = inLine(a, b, far(a, b) + 1);
        return behind >= 0 && work[behind] == 5;
    }

    /** How many squares each square is from a goal for a side, over squares that no foe holds; -1 without a way. */
    int[] ways(int side, int goal, boolean[] isHeldByFoe) {
        int[] steps = new int[count];
        Arrays.fill(steps, -1);
        if (!isOpen(side, goal, goal, isHeldByFoe)) {
            return steps;
        }
        steps[goal] = 0;
        Deque<Integer> open = new ArrayDeque<>();
        open.add(goal);
        while (!open.isEmpty()) {
            int here = open.remove();
            for (int next = 0; next < count; next++) {
                if (steps[next] < 0 && touch(here, next)) {
                    steps[next] = steps[here] + 1;
                    // Where one may not go one may still begin.
                    if (isOpen(side, next, goal, isHeldByFoe)) {
                        open.add(next);
                    }
                }
            }
        }
        return steps;
    }

    boolean isOpen(int side, int square, int goal, boolean[] isHeldByFoe) {
        boolean isPit = work[square] == 2 || work[square] == 7;
        return owner(square) != 1 - side && !isHeldByFoe[square] && (!isPit || square == goal);
    }
}

/** Part 7 and promise 29: letters, the relief, depth, and how a siege ends. */
final class ReliefTest {
    private static final Checks checks = new Checks("ReliefTest");

    public static void main(String[] args) {
        letterThrough();
        letterBetweenGuards();
        letterCaught();
        guardsThatCount();
        laterLetters();
        relief();
        reliefAtOnce();
        closedRoad();
        parleyWithRelief();
        depths();
        depthOfTrench();
        depthInTown();
        noGarrison();
        noBesiegers();
        stormedFirst();
        ofSiege();
        checks.end();
    }

    /** Six companies of nine besiegers, of which so many are at guard, and one of the garrison. */
    private static Siegelines guarded(int guards, int days) {
        Siegelines x = Fields.plain(5, 5);
        x.stores(0, 0, 999, 0, 60);
        x.stores(1, 0, 999, 0, 60);
        x.town(0, 7, days);
        for (int i = 0; i < 6; i++) {
            x.company(0, 0, 9);
        }
        x.company(1, 24, 9);
        x.begin();
        for (int i = 0; i < guards; i++) {
            x.order(i, 2, 0);
        }
        return x;
    }

    private static void letterThrough() {
        Siegelines x = guarded(0, 5);
        x.letter();
        x.pass(23);
        checks.due("not ahead of midnight", 0, x.ofSiege(7));
        x.pass(1);
        checks.due("through at its first midnight", 1, x.ofSiege(7));
        checks.due("days stay at that midnight", 5, x.ofSiege(8));
        x.pass(24);
        checks.due("1 less at the next one", 4, x.ofSiege(8));
        checks.due("it is through once", 1, x.ofSiege(7));
        Siegelines y = guarded(0, 5);
        y.pass(48);
        checks.due("without a letter no day goes", 5, y.ofSiege(8));
    }

    private static void letterBetweenGuards() {
        int[] midnights = {1, 2, 3, 4};
        for (int guards = 0; guards < 4; guards++) {
            Siegelines x = guarded(guards, 9);
            x.letter();
            for (int day = 1; day <= 5; day++) {
                x.pass(24);
                checks.due(guards + " guards, day " + day, day >= midnights[guards] ? 1 : 0, x.ofSiege(7));
            }
        }
    }

    private static void letterCaught() {
        Siegelines x = guarded(4, 9);
        x.letter();
        x.pass(48);
        x.pass(48);
        checks.due("not through with 4 days", 0, x.ofSiege(7));
        for (int i = 0; i < 4; i++) {
            x.order(i, 0, 0);
        }
        x.pass(24);
        checks.due("it is caught", 0, x.ofSiege(7));
        x.letter();
        x.pass(24);
        checks.due("another one is not", 1, x.ofSiege(7));
    }

    private static void guardsThatCount() {
        Siegelines x = guarded(0, 9);
        x.order(0, 3, 0);
        x.order(1, 4, 20);
        x.order(2, 1, 5);
        x.letter();
        x.pass(24);
        checks.due("other orders do not count", 1, x.ofSiege(7));
        Siegelines y = Fields.plain(5, 5);
        y.stores(0, 0, 999, 0, 60);
        y.stores(1, 0, 999, 0, 60);
        y.company(0, 0, 9);
        y.company(1, 24, 9);
        y.begin();
        y.order(1, 2, 0);
        y.letter();
        y.pass(24);
        checks.due("guards of the garrison do not count", 1, y.ofSiege(7));
        Siegelines fallen = Fields.plain(5, 5);
        fallen.stores(0, 0, 999, 0, 60);
        fallen.stores(1, 99, 999, 0, 60);
        fallen.gun(1, 4, 1);
        fallen.company(0, 2, 1);
        fallen.company(0, 0, 9);
        fallen.company(1, 24, 9);
        fallen.begin();
        fallen.order(0, 2, 0);
        fallen.aim(0, 2);
        fallen.letter();
        fallen.pass(24);
        checks.due("one that is gone stays at guard", 2, fallen.ofCompany(0, 2) + fallen.ofCompany(0, 4));
        checks.due("but does not count", 1, fallen.ofSiege(7));
        Siegelines z = guarded(0, 9);
        z.pass(11);
        z.order(0, 5, 24);
        z.pass(10);
        checks.due("tired of 10", 10, z.ofCompany(0, 3));
        z.pass(1);
        z.order(0, 2, 0);
        z.letter();
        z.pass(1);
        checks.due("tired of 7 at 22", 7, z.ofCompany(0, 3));
        z.order(0, 5, 24);
        z.pass(1);
        checks.due("no guard at midnight", 1, z.ofSiege(7));
    }

    private static void laterLetters() {
        Siegelines x = guarded(0, 9);
        x.letter();
        x.letter();
        x.letter();
        x.pass(24);
        checks.due("three are through", 3, x.ofSiege(7));
        checks.due("two of them take a day each", 7, x.ofSiege(8));
        x.pass(20);
        x.letter();
        x.pass(4);
        checks.due("a later one takes a day, and the midnight one", 5, x.ofSiege(8));
        Siegelines y = guarded(1, 9);
        y.letter();
        y.pass(24);
        y.letter();
        y.pass(24);
        checks.due("each has its own days", 1, y.ofSiege(7));
        y.pass(24);
        checks.due("then the second", 2, y.ofSiege(7));
        checks.due("9 less 1 less 1", 7, y.ofSiege(8));
    }

    private static void relief() {
        Siegelines x = guarded(0, 2);
        x.letter();
        x.pass(48);
        checks.due("not there with a day", 0, x.ofSiege(9));
        checks.due("the road is open", 14, x.ofSide(0, 0));
        x.pass(24);
        checks.due("there", 1, x.ofSiege(9));
        checks.due("no days", 0, x.ofSiege(8));
        checks.due("morale of the garrison", 80, x.ofSide(1, 3));
        checks.due("morale of the besiegers", 45, x.ofSide(0, 3));
        checks.due("the last supply came ahead of it", 21, x.ofSide(0, 0));
        x.pass(20);
        x.letter();
        x.pass(28);
        checks.due("once", 80, x.ofSide(1, 3));
        checks.due("once for the besiegers", 45, x.ofSide(0, 3));
        checks.due("days are never below 0", 0, x.ofSiege(8));
        checks.due("a letter all the same", 2, x.ofSiege(7));
        checks.due("the road is closed", 21, x.ofSide(0, 0));
        checks.holds("sound", x.isSound());
        Siegelines y = guarded(0, 1);
        Siegelines z = Fields.plain(5, 5);
        z.stores(0, 0, 999, 0, 15);
        z.stores(1, 0, 999, 0, 90);
        z.town(0, 7, 1);
        z.company(0, 0, 9);
        z.company(1, 24, 9);
        z.begin();
        z.letter();
        z.pass(48);
        checks.due("100 at most", 100, z.ofSide(1, 3));
        checks.due("lifted by the relief", 2, z.ofSiege(1));
        checks.due("without honours", -1, z.ofSiege(2));
        checks.due("at that midnight", 47, z.ofSiege(0));
        checks.due("the other goes on", 1, y.ofSiege(1));
    }

    private static void reliefAtOnce() {
        Siegelines x = guarded(0, 2);
        for (int i = 0; i < 5; i++) {
            x.letter();
        }
        x.pass(24);
        checks.due("five letters", 5, x.ofSiege(7));
        checks.due("days are 0", 0, x.ofSiege(8));
        checks.due("there at the midnight at which it was set out", 1, x.ofSiege(9));
    }

    private static void closedRoad() {
        Siegelines x = guarded(0, 1);
        x.letter();
        x.pass(24);
        int food = x.ofSide(0, 1);
        x.pass(24);
        checks.due("there", 1, x.ofSiege(9));
        checks.due("the last supply", food - 5 + 7, x.ofSide(0, 1));
        x.pass(24);
        checks.due("food is eaten alone", food - 10 + 7, x.ofSide(0, 1));
        checks.due("no powder comes", 14, x.ofSide(0, 0));
    }

    /** A siege with a breach and the relief there, and this morale of the garrison. */
    private static Siegelines relieved(int morale) {
        Siegelines x = Fields.plain(5, 5);
        x.ground(12, 0, 0, 6, 0);
        x.ground(7, 0, 0, 0, 0);
        x.stores(0, 0, 999, 0, 60);
        x.stores(1, 0, 0, 0, morale);
        x.town(0, 0, 1);
        x.company(0, 7, 200);
        x.company(1, 24, 99);
        x.begin();
        x.letter();
        return x;
    }

    private static void parleyWithRelief() {
        Siegelines x = relieved(39);
        x.pass(24);
        checks.due("morale 39 less 6 less 1", 32, x.ofSide(1, 3));
        checks.due("a letter is through", 1, x.ofSiege(7));
        checks.holds("80 and 68 and 10 less 20", x.parley());
        checks.due("honours by depth 4", 1, x.ofSiege(2));
        Siegelines y = relieved(59);
        y.pass(24);
        checks.fails("80 and 48 and 10 less 20 is 118", y.parley());
        Siegelines exact = relieved(57);
        exact.pass(24);
        checks.holds("80 and 50 and 10 less 20 is 120", exact.parley());
        Siegelines less = relieved(58);
        less.pass(24);
        checks.fails("119", less.parley());
        Siegelines z = relieved(44);
        z.pass(48);
        checks.due("44 less 14 and 20", 50, z.ofSide(1, 3));
        checks.due("there", 1, z.ofSiege(9));
        checks.fails("80 and 50 and 20 less 40 is 110", z.parley());
        Siegelines w = relieved(34);
        w.pass(48);
        checks.holds("80 and 60 and 20 less 40 is 120", w.parley());
        Siegelines v = relieved(35);
        v.pass(48);
        checks.fails("one of morale more is 119", v.parley());
    }

    private static int depthWith(int work, int square) {
        Siegelines x = Fields.plain(9, 5);
        x.ground(22, 0, 0, 1, 9);
        x.ground(square, 0, 0, work, 9);
        x.company(0, 0, 9);
        x.company(1, 44, 9);
        return x.ofSiege(3);
    }

    private static void depths() {
        checks.due("nothing", 0, depthWith(0, 10));
        checks.due("a breach", 3, depthWith(6, 11));
        checks.due("a breach beside a company", 4, depthWith(6, 1));
        checks.due("a breach aslant of it", 3, depthWith(6, 10));
        Siegelines x = Fields.plain(9, 5);
        x.ground(1, 0, 0, 6, 0);
        x.ground(3, 0, 0, 3, 0);
        x.company(0, 8, 9);
        x.company(1, 2, 9);
        checks.due("the garrison beside it does not count", 3, x.ofSiege(3));
        x.company(0, 1, 9);
        checks.due("a company on it", 4, x.ofSiege(3));
        Siegelines y = Fields.plain(9, 5);
        y.ground(12, 0, 0, 3, 0);
        y.company(0, 11, 9);
        y.company(1, 44, 9);
        checks.due("beside the town", 0, y.ofSiege(3));
        y.begin();
        y.order(0, 5, 12);
        y.pass(1);
        checks.due("in the town", 5, y.ofSiege(3));
        Siegelines gone = Fields.plain(9, 5);
        gone.ground(1, 0, 0, 6, 0);
        gone.company(0, 0, 1);
        gone.company(0, 8, 9);
        gone.company(1, 1, 100);
        gone.begin();
        checks.due("one man beside it", 4, gone.ofSiege(3));
        gone.order(0, 5, 1);
        gone.pass(1);
        checks.due("one that is gone does not count", 3, gone.ofSiege(3));
    }

    private static void depthOfTrench() {
        checks.due("a trench 4 far from a wall", 0, depthWith(5, 18));
        checks.due("a trench 3 far", 1, depthWith(5, 19));
        checks.due("a trench 3 far aslant", 1, depthWith(5, 1));
        Siegelines x = Fields.plain(9, 5);
        x.ground(10, 0, 0, 2, 0);
        x.ground(20, 0, 0, 5, 0);
        x.company(0, 0, 9);
        x.company(1, 44, 9);
        checks.due("aslant of a ditch", 0, x.ofSiege(3));
        x.ground(11, 0, 0, 5, 0);
        checks.due("a trench beside a ditch", 2, x.ofSiege(3));
        x.ground(35, 0, 0, 6, 0);
        checks.due("the greatest one holds", 3, x.ofSiege(3));
        Siegelines corner = Fields.plain(9, 5);
        corner.camp(20, 44);
        corner.ground(0, 0, 0, 5, 0);
        corner.ground(3, 0, 0, 1, 9);
        checks.due("a trench at 0", 1, corner.ofSiege(3));
        corner.ground(9, 0, 0, 2, 0);
        checks.due("beside a ditch", 2, corner.ofSiege(3));
        Siegelines other = Fields.plain(9, 5);
        other.camp(20, 44);
        other.ground(0, 0, 0, 1, 9);
        other.ground(30, 0, 0, 5, 0);
        checks.due("a wall at 0", 1, other.ofSiege(3));
    }

    private static void depthInTown() {
        Siegelines x = Fields.plain(9, 5);
        x.ground(12, 0, 0, 3, 0);
        x.stores(1, 99, 999, 9, 60);
        x.gun(1, 14, 1);
        x.company(0, 11, 1);
        x.company(0, 0, 9);
        x.company(1, 44, 9);
        x.begin();
        x.order(0, 5, 12);
        x.pass(1);
        checks.due("one man in the town", 5, x.ofSiege(3));
        x.aim(0, 12);
        x.pass(1);
        checks.due("he is gone, there", 12, x.ofCompany(0, 1) + x.ofCompany(0, 2));
        checks.due("and does not count", 0, x.ofSiege(3));
        Siegelines y = Fields.plain(9, 5);
        y.ground(12, 0, 0, 3, 0);
        y.company(0, 0, 9);
        y.company(1, 12, 9);
        checks.due("the garrison in its town does not count", 0, y.ofSiege(3));
    }

    private static void noGarrison() {
        Siegelines x = Fields.plain(5, 5);
        x.stores(0, 99, 99, 9, 60);
        x.town(101, 0, 10);
        x.gun(0, 0, 1);
        x.gun(0, 0, 1);
        x.company(0, 0, 9);
        x.company(1, 2, 12);
        x.company(0, 20, 9);
        x.begin();
        x.aim(1, 3);
        x.aim(0, 2);
        x.order(0, 3, 0);
        x.pass(9);
        checks.due("over", 2, x.ofSiege(1));
        checks.due("honours 0", 0, x.ofSiege(2));
        checks.due("the clock stays", 0, x.ofSiege(0));
        checks.due("behind the guns, ahead of the companies", 0, x.ofCompany(0, 3));
        checks.due("people stay", 101, x.ofSiege(5));
        checks.due("all guns of that hour fired", 8, x.ofSide(0, 7));
        Siegelines y = Fields.plain(5, 5);
        y.company(0, 11, 100);
        y.company(1, 12, 1);
        y.company(0, 0, 9);
        y.begin();
        y.order(0, 5, 12);
        y.order(2, 3, 0);
        y.pass(9);
        checks.due("over by a storm", 0, y.ofSiege(2));
        checks.due("behind the act of a company", 0, y.ofCompany(2, 3));
    }

    private static void noBesiegers() {
        Siegelines x = Fields.plain(5, 5);
        x.stores(1, 99, 99, 9, 60);
        x.gun(1, 24, 1);
        x.company(0, 22, 12);
        x.company(1, 24, 9);
        x.begin();
        x.aim(0, 22);
        x.pass(9);
        checks.due("over", 2, x.ofSiege(1));
        checks.due("lifted", -1, x.ofSiege(2));
        Siegelines y = Fields.plain(5, 5);
        y.stores(0, 99, 99, 9, 4);
        y.company(0, 11, 9);
        y.company(1, 12, 100);
        y.begin();
        y.order(0, 5, 12);
        y.pass(9);
        checks.due("morale of 0 by a fight that is lost", 2, y.ofSiege(1));
        checks.due("lifted, too", -1, y.ofSiege(2));
        checks.due("the clock stays", 0, y.ofSiege(0));
    }

    /** What is told first is asked first: on gate ahead of a garrison that is gone, that ahead of lifted. */
    private static void stormedFirst() {
        Siegelines x = Fields.plain(5, 5);
        x.town(100, 0, 9);
        x.company(0, 23, 100);
        x.company(1, 24, 1);
        x.begin();
        x.order(0, 5, 24);
        x.pass(1);
        checks.due("stormed: half of the people", 50, x.ofSiege(5));
        checks.due("honours", 0, x.ofSiege(2));
        Siegelines y = Fields.plain(5, 5);
        y.stores(0, 99, 0, 9, 60);
        y.stores(1, 99, 0, 9, 60);
        y.gun(0, 22, 1);
        y.gun(1, 24, 1);
        y.company(0, 20, 9);
        y.company(1, 24, 9);
        y.begin();
        y.aim(0, 24);
        y.aim(1, 20);
        y.pass(1);
        checks.due("nobody is left of both", 0, y.ofSide(0, 5) + y.ofSide(1, 5));
        checks.due("no garrison: honours 0", 0, y.ofSiege(2));
    }

    private static void ofSiege() {
        Siegelines x = Fields.plain(9, 5);
        x.ground(10, 0, 0, 5, 0);
        x.ground(11, 0, 0, 5, 0);
        x.ground(20, 0, 0, 6, 0);
        x.town(321, 5, 6);
        x.company(0, 10, 9);
        x.company(1, 44, 9);
        x.begin();
        x.mine(0, 1);
        x.letter();
        x.pass(2);
        int[] want = {2, 1, -1, 3, 0, 321, 0, 0, 6, 0, 1, 2, 1};
        for (int what = 0; what <= 12; what++) {
            checks.due("ofSiege of " + what, want[what], x.ofSiege(what));
        }
        int[] wrong = {-1, 13, Integer.MIN_VALUE, Integer.MAX_VALUE};
        for (int what : wrong) {
            checks.refuses("ofSiege of " + what, Checks.ARGUMENT, x, () -> x.ofSiege(what));
        }
    }
}

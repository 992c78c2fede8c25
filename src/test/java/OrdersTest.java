/** Promises 11 to 14 and 18 to 21: what is told as the siege goes on. */
final class OrdersTest {
    private static final Checks checks = new Checks("OrdersTest");

    public static void main(String[] args) {
        order();
        orderWrong();
        aim();
        haul();
        haulWrong();
        haulDismounted();
        right();
        rightedGunIsCool();
        rightByTired();
        letter();
        expel();
        parley();
        parleyHonours();
        pass();
        ahead();
        behind();
        checks.end();
    }

    private static void order() {
        Siegelines x = Fields.begun(5, 5);
        checks.due("the order before", 0, x.order(0, 1, 6));
        checks.due("the order now", 1, x.ofCompany(0, 4));
        checks.due("its goal", 6, x.ofCompany(0, 5));
        checks.due("guard", 1, x.order(0, 2, 99));
        checks.due("guard has no goal", -1, x.ofCompany(0, 5));
        checks.due("make", 2, x.order(0, 3, -5));
        checks.due("make has no goal", -1, x.ofCompany(0, 5));
        checks.due("march", 3, x.order(0, 4, 24));
        checks.due("the goal of a march", 24, x.ofCompany(0, 5));
        checks.due("storm", 4, x.order(0, 5, 0));
        checks.due("the goal of a storm", 0, x.ofCompany(0, 5));
        checks.due("rest", 5, x.order(0, 0, 7));
        checks.due("rest has no goal", -1, x.ofCompany(0, 5));
        checks.due("mend", 0, x.order(1, 6, 24));
        checks.due("the goal of mending", 24, x.ofCompany(1, 5));
        checks.due("the order after mending", 6, x.order(1, 6, 23));
    }

    private static void orderWrong() {
        Siegelines x = Fields.begun(5, 5);
        int[][] indices = {{-1, 0, 0}, {2, 0, 0}, {2, 9, 0}, {0, 1, 25}, {0, 1, -1}, {0, 4, 25}, {0, 5, -1},
            {0, 6, 25}, {1, 1, 25}, {1, 6, -1}, {Integer.MAX_VALUE, 0, 0}};
        for (int[] w : indices) {
            checks.refuses("order(" + w[0] + ", " + w[1] + ", " + w[2] + ")", Checks.INDEX, x,
                () -> x.order(w[0], w[1], w[2]));
        }
        int[][] wrong = {{0, -1, 25}, {0, 7, 25}, {1, 1, 3}, {0, 6, 3}, {0, Integer.MIN_VALUE, 0}};
        for (int[] w : wrong) {
            checks.refuses("order(" + w[0] + ", " + w[1] + ", " + w[2] + ")", Checks.ARGUMENT, x,
                () -> x.order(w[0], w[1], w[2]));
        }
        Siegelines gone = Fields.plain(5, 5);
        gone.stores(0, 9, 0, 0, 60);
        gone.company(0, 1, 1);
        gone.company(1, 2, 200);
        gone.company(1, 24, 1);
        gone.company(0, 0, 1);
        gone.begin();
        gone.order(0, 5, 2);
        gone.pass(1);
        checks.due("one man that lost a fight is gone", 0, gone.ofCompany(0, 2));
        checks.refuses("an order to a company that is gone", Checks.STATE, gone, () -> gone.order(0, 0, 0));
        checks.refuses("a wrong order to it", Checks.ARGUMENT, gone, () -> gone.order(0, 6, 0));
    }

    private static void aim() {
        Siegelines x = Fields.plain(5, 5);
        x.gun(0, 0, 1);
        x.company(0, 0, 1);
        x.company(1, 24, 1);
        x.begin();
        checks.due("no aim before", -1, x.aim(0, 24));
        checks.due("the aim", 24, x.ofGun(0, 6));
        checks.due("the aim before", 24, x.aim(0, 0));
        checks.due("no aim any more", 0, x.aim(0, -1));
        checks.due("none", -1, x.ofGun(0, 6));
        checks.refuses("aim of no gun", Checks.INDEX, x, () -> x.aim(1, 0));
        checks.refuses("aim of gun -1", Checks.INDEX, x, () -> x.aim(-1, 0));
        checks.refuses("aim at 25", Checks.INDEX, x, () -> x.aim(0, 25));
        checks.refuses("aim at -2", Checks.INDEX, x, () -> x.aim(0, -2));
    }

    /** A gun of the besiegers on camp and companies beside it, that are 0, 1 and 2. */
    private static Siegelines battery() {
        Siegelines x = Fields.plain(5, 5);
        x.ground(5, 0, 0, 2, 0);
        x.gun(0, 0, 1);
        x.company(1, 24, 9);
        x.company(0, 1, 50);
        x.company(0, 1, 50);
        x.company(0, 5, 50);
        return x;
    }

    private static void haul() {
        Siegelines x = battery();
        x.begin();
        x.aim(0, 24);
        checks.due("hauled by the first company", 2, x.haul(0, 1));
        checks.due("the gun's square", 1, x.ofGun(0, 1));
        checks.due("its aim is none", -1, x.ofGun(0, 6));
        checks.due("the first is tired", 2, x.ofCompany(1, 3));
        checks.due("the second is not", 0, x.ofCompany(2, 3));
        for (int i = 0; i < 6; i++) {
            x.order(1, 3, 0);
            x.pass(1);
        }
        checks.due("the first is tired of 8", 8, x.ofCompany(1, 3));
        checks.refuses("nobody is there", Checks.STATE, x, () -> x.haul(0, 0));
        x.order(2, 4, 0);
        x.pass(1);
        checks.due("to camp by the second", 3, x.haul(0, 0));
        checks.refuses("the first is too tired", Checks.STATE, x, () -> x.haul(0, 1));
    }

    private static void haulWrong() {
        Siegelines x = battery();
        x.ground(10, 0, 0, 6, 0);
        x.begin();
        checks.refuses("haul of no gun", Checks.INDEX, x, () -> x.haul(1, 1));
        checks.refuses("haul to -1", Checks.INDEX, x, () -> x.haul(0, -1));
        checks.refuses("haul to 25", Checks.INDEX, x, () -> x.haul(0, 25));
        checks.refuses("haul into a ditch", Checks.STATE, x, () -> x.haul(0, 5));
        checks.refuses("haul where it is", Checks.STATE, x, () -> x.haul(0, 0));
        checks.refuses("haul too far", Checks.STATE, x, () -> x.haul(0, 2));
        checks.refuses("haul aslant", Checks.STATE, x, () -> x.haul(0, 6));
        int[] works = {6, 7};
        for (int work : works) {
            Siegelines y = Fields.plain(5, 5);
            y.ground(1, 0, 0, work, 0);
            y.gun(0, 0, 1);
            y.company(0, 1, 50);
            y.company(1, 24, 50);
            y.begin();
            checks.refuses("haul onto work " + work, Checks.STATE, y, () -> y.haul(0, 1));
        }
        Siegelines z = Fields.plain(5, 5);
        z.gun(0, 0, 1);
        z.company(0, 0, 50);
        z.company(1, 1, 50);
        z.company(1, 24, 50);
        z.begin();
        checks.refuses("haul by the other side", Checks.STATE, z, () -> z.haul(0, 1));
    }

    private static void right() {
        Siegelines x = Fields.plain(9, 5);
        x.stores(0, 500, 500, 0, 60);
        x.stores(1, 500, 500, 0, 60);
        x.gun(0, 9, 1);
        x.gun(0, 9, 1);
        x.gun(0, 9, 1);
        x.gun(1, 12, 1);
        x.company(0, 0, 50);
        x.company(1, 12, 200);
        x.company(1, 12, 200);
        x.company(1, 44, 50);
        x.begin();
        x.aim(3, 9);
        for (int gun = 0; gun < 3; gun++) {
            x.aim(gun, 12);
        }
        checks.refuses("a gun that is ready", Checks.STATE, x, () -> x.right(3));
        x.order(3, 3, 0);
        x.pass(1);
        checks.due("12 hits dismount it, ahead of its fire", 1, x.ofGun(3, 5));
        checks.due("its hits", 12, x.ofGun(3, 4));
        checks.due("no shot of the garrison", 0, x.ofSide(1, 7));
        for (int gun = 0; gun < 3; gun++) {
            x.aim(gun, -1);
        }
        checks.due("righted by the first there", 4, x.right(3));
        checks.due("it is ready", 0, x.ofGun(3, 5));
        checks.due("without hits", 0, x.ofGun(3, 4));
        checks.due("without heat", 0, x.ofGun(3, 3));
        checks.due("its aim stays", 9, x.ofGun(3, 6));
        checks.refuses("now it is ready", Checks.STATE, x, () -> x.right(3));
        checks.refuses("no such gun", Checks.INDEX, x, () -> x.right(4));
        checks.refuses("gun -1", Checks.INDEX, x, () -> x.right(-1));
        rightByWhom(x);
    }

    /** Goes on where right() ends: company 1 there is tired of 4. */
    private static void rightByWhom(Siegelines x) {
        for (int i = 0; i < 3; i++) {
            for (int gun = 0; gun < 3; gun++) {
                x.aim(gun, 12);
            }
            x.aim(3, -1);
            for (int hour = 0; hour < 4 && x.ofGun(3, 5) == 0; hour++) {
                x.order(1, 3, 0);
                x.order(2, 3, 0);
                x.pass(1);
            }
            checks.due("dismounted again", 1, x.ofGun(3, 5));
            int by = x.ofCompany(1, 3) < 8 ? 1 : x.ofCompany(2, 3) < 8 ? 2 : 0;
            if (by == 0) {
                checks.refuses("both are too tired", Checks.STATE, x, () -> x.right(3));
                return;
            }
            checks.due("righted by the first fresh one", x.ofCompany(by, 3) + 4, x.right(3));
        }
        checks.fails("both companies were fresh too long", true);
    }

    private static void haulDismounted() {
        Siegelines x = outgunned();
        aimAll(x, 12);
        x.order(1, 4, 21);
        x.pass(1);
        checks.due("dismounted", 1, x.ofGun(0, 5));
        checks.due("it is hauled all the same", 3, x.haul(0, 21));
        checks.due("where it is", 21, x.ofGun(0, 1));
        checks.due("still dismounted", 1, x.ofGun(0, 5));
    }

    /** A gun of the garrison at 12, that three of the besiegers at 9 can dismount in an hour; a company of 200 by it. */
    private static Siegelines outgunned() {
        Siegelines x = Fields.plain(9, 5);
        x.stores(0, 500, 500, 0, 60);
        x.stores(1, 500, 0, 0, 60);
        x.gun(1, 12, 1);
        for (int i = 0; i < 3; i++) {
            x.gun(0, 9, 1);
        }
        x.company(0, 0, 50);
        x.company(1, 12, 200);
        x.begin();
        return x;
    }

    private static void aimAll(Siegelines x, int square) {
        for (int gun = 1; gun <= 3; gun++) {
            x.aim(gun, square);
        }
    }

    private static void rightedGunIsCool() {
        Siegelines x = outgunned();
        aimAll(x, 12);
        x.aim(0, 13);
        x.pass(1);
        checks.due("it fired first", 1, x.ofGun(0, 3));
        checks.due("then it was dismounted", 1, x.ofGun(0, 5));
        checks.due("set right", 4, x.right(0));
        checks.due("with heat of 0", 0, x.ofGun(0, 3));
    }

    private static void rightByTired() {
        for (int tired = 7; tired <= 8; tired++) {
            Siegelines x = outgunned();
            x.order(1, 3, 0);
            x.pass(tired - 1);
            aimAll(x, 12);
            x.pass(1);
            checks.due("tired", tired, x.ofCompany(1, 3));
            if (tired == 7) {
                checks.due("7 is below 8", 11, x.right(0));
            } else {
                checks.refuses("8 is not", Checks.STATE, x, () -> x.right(0));
            }
        }
    }

    private static void letter() {
        Siegelines x = Fields.begun(5, 5);
        checks.due("at hour 0", 1, x.letter());
        x.pass(4);
        checks.due("at hour 4", 2, x.letter());
        x.pass(1);
        checks.refuses("at hour 5", Checks.STATE, x, () -> x.letter());
        x.pass(14);
        checks.refuses("at hour 19", Checks.STATE, x, () -> x.letter());
        x.pass(1);
        for (int sent = 3; sent <= 6; sent++) {
            checks.due("at hour 20", sent, x.letter());
        }
        checks.refuses("a 7th", Checks.STATE, x, () -> x.letter());
    }

    private static void expel() {
        Siegelines x = Fields.plain(5, 5);
        x.town(10, 0, 1);
        x.stores(1, 0, 0, 0, 8);
        x.company(0, 0, 1);
        x.company(1, 24, 1);
        checks.refuses("expel ahead of the siege", Checks.STATE, x, () -> x.expel(1));
        checks.refuses("expel too many ahead of the siege", Checks.ARGUMENT, x, () -> x.expel(11));
        x.begin();
        checks.due("people that stay", 7, x.expel(3));
        checks.due("people", 7, x.ofSiege(5));
        checks.due("morale", 3, x.ofSide(1, 3));
        checks.refuses("expel none", Checks.ARGUMENT, x, () -> x.expel(0));
        checks.refuses("expel -1", Checks.ARGUMENT, x, () -> x.expel(-1));
        checks.refuses("expel too many", Checks.ARGUMENT, x, () -> x.expel(8));
        checks.due("expel all", 0, x.expel(7));
        checks.due("morale is never below 0", 0, x.ofSide(1, 3));
        checks.due("the besiegers do not mind", 60, x.ofSide(0, 3));
    }

    /** A siege with a breach as its greatest depth (60), and this morale of the garrison. */
    private static Siegelines breached(int morale) {
        Siegelines x = Fields.plain(9, 5);
        x.ground(22, 0, 0, 6, 0);
        x.stores(1, 0, 0, 0, morale);
        x.company(0, 0, 100);
        x.company(1, 44, 100);
        x.begin();
        return x;
    }

    private static void parley() {
        Siegelines x = breached(41);
        checks.due("depth", 3, x.ofSiege(3));
        long before = x.digest();
        checks.fails("119 is too little", x.parley());
        checks.due("nothing is changed", before, x.digest());
        Siegelines y = breached(40);
        checks.holds("120 is enough", y.parley());
        checks.due("the siege is over", 2, y.ofSiege(1));
        checks.due("honours by a breach", 2, y.ofSiege(2));
        Siegelines z = breached(60);
        z.pass(24);
        checks.due("hunger, and morale 6 less, and 1 for the breach", 53, z.ofSide(1, 3));
        checks.fails("60 and 47 and 10", z.parley());
        z.pass(24);
        checks.holds("60 and 54 and 20", z.parley());
    }

    private static void parleyHonours() {
        Siegelines x = Fields.plain(9, 5);
        x.stores(1, 0, 0, 0, 14);
        x.town(5, 0, 40);
        x.company(0, 0, 200);
        x.company(1, 44, 200);
        x.begin();
        x.letter();
        x.pass(24);
        checks.due("a letter is through", 1, x.ofSiege(7));
        checks.due("morale", 8, x.ofSide(1, 3));
        x.pass(24);
        checks.due("morale after another day", 2, x.ofSide(1, 3));
        checks.fails("0 and 98 and 20 less 20", x.parley());
        x.pass(48);
        checks.due("hunger of 4 days", 4, x.ofSide(1, 4));
        checks.fails("0 and 100 and 30 (at most) less 20", x.parley());
        checks.holds("100 less 10 and 30, of 40", afterFourHungryDays(34).parley());
        checks.fails("119 with one of morale more", afterFourHungryDays(35).parley());
        Siegelines y = Fields.plain(9, 5);
        y.stores(1, 0, 0, 0, 14);
        y.company(0, 0, 200);
        y.company(1, 44, 200);
        y.begin();
        y.pass(48);
        checks.fails("0 and 98 and 20", y.parley());
        checks.due("hunger alone, with honours", 3, honoursAfter(y));
        Siegelines z = breached(1);
        z.order(0, 4, 21);
        z.pass(5);
        checks.due("depth beside a breach", 4, z.ofSiege(3));
        checks.due("honours beside a breach", 1, honoursAfter(z));
        Siegelines w = Fields.plain(9, 5);
        w.ground(10, 0, 0, 3, 0);
        w.stores(1, 0, 0, 0, 50);
        w.company(0, 1, 100);
        w.company(1, 44, 100);
        w.begin();
        w.order(0, 5, 10);
        w.pass(1);
        checks.due("depth in the town", 5, w.ofSiege(3));
        checks.due("honours in the town", 0, honoursAfter(w));
    }

    private static Siegelines afterFourHungryDays(int morale) {
        Siegelines x = Fields.plain(9, 5);
        x.stores(1, 0, 0, 0, morale);
        x.company(0, 0, 200);
        x.company(1, 44, 200);
        x.begin();
        x.pass(48);
        x.pass(48);
        return x;
    }

    /** Parleys each day until the garrison gives up. */
    private static int honoursAfter(Siegelines x) {
        for (int day = 0; day < 9 && x.ofSiege(1) == 1; day++) {
            if (!x.parley()) {
                x.pass(24);
            }
        }
        return x.ofSiege(2);
    }

    private static void pass() {
        Siegelines x = Fields.begun(5, 5);
        checks.due("an hour", 1, x.pass(1));
        checks.due("48 hours", 49, x.pass(48));
        int[] wrong = {0, -1, 49, Integer.MAX_VALUE, Integer.MIN_VALUE};
        for (int hours : wrong) {
            checks.refuses("pass(" + hours + ")", Checks.ARGUMENT, x, () -> x.pass(hours));
        }
        Siegelines y = Fields.plain(5, 5);
        y.stores(0, 0, 9999, 0, 60);
        y.stores(1, 0, 9999, 0, 60);
        for (int i = 0; i < 6; i++) {
            y.company(i % 2, i % 2 == 0 ? 0 : 24, 49);
        }
        y.begin();
        for (int i = 0; i < 49; i++) {
            y.pass(48);
        }
        checks.due("49 times 48 hours", 2352, y.ofSiege(0));
        y.pass(1);
        checks.refuses("beyond 2400", Checks.STATE, y, () -> y.pass(48));
        checks.due("up to 2400", 2400, y.pass(47));
        checks.refuses("no hour more", Checks.STATE, y, () -> y.pass(1));
        checks.due("the siege still goes on", 1, y.ofSiege(1));
        checks.due("men foreseen beyond 2400", 147, y.forecast(48, 2));
        Siegelines z = Fields.plain(5, 5);
        z.stores(0, 0, 100, 0, 6);
        z.stores(1, 0, 9999, 0, 60);
        z.company(0, 0, 10);
        z.company(1, 24, 20);
        z.begin();
        for (int i = 0; i < 50; i++) {
            z.pass(48);
        }
        checks.due("food for 100 days", 0, z.ofSide(0, 1));
        checks.due("over the day beyond 2400", 2423, z.forecast(24, 0));
    }

    /** In the setting no order is taken, but wrong arguments come first. */
    private static void ahead() {
        Siegelines x = Fields.plain(5, 5);
        x.ground(1, 0, 0, 5, 0);
        x.gun(0, 0, 1);
        x.company(0, 1, 100);
        x.company(1, 24, 100);
        refusesAll(x);
    }

    /** When the siege is over neither. */
    private static void behind() {
        Siegelines x = Fields.plain(5, 5);
        x.ground(12, 0, 0, 6, 0);
        x.ground(1, 0, 0, 5, 0);
        x.stores(1, 0, 0, 0, 1);
        x.town(9, 0, 10);
        x.gun(0, 0, 1);
        x.company(0, 1, 100);
        x.company(1, 24, 100);
        x.begin();
        checks.holds("it gives up", x.parley());
        refusesAll(x);
        checks.refuses("expel one", Checks.STATE, x, () -> x.expel(9));
        Siegelines fought = outgunned();
        fought.order(1, 0, 0);
        aimAll(fought, 12);
        fought.pass(1);
        fought.order(0, 4, 1);
        aimAll(fought, -1);
        checks.due("dismounted", 1, fought.ofGun(0, 5));
        for (int day = 0; day < 40 && !fought.parley(); day++) {
            fought.pass(24);
        }
        checks.due("over", 2, fought.ofSiege(1));
        checks.refuses("no gun is set right any more", Checks.STATE, fought, () -> fought.right(0));
        checks.refuses("begin again", Checks.STATE, x, () -> x.begin());
        checks.refuses("lay again", Checks.STATE, x, () -> x.lay(5, 5, 0));
        checks.refuses("no forecast", Checks.STATE, x, () -> x.forecast(1, 0));
    }

    private static void refusesAll(Siegelines x) {
        checks.refuses("order", Checks.STATE, x, () -> x.order(0, 0, 0));
        checks.refuses("order of no company", Checks.INDEX, x, () -> x.order(2, 7, 0));
        checks.refuses("order at no square", Checks.INDEX, x, () -> x.order(1, 1, 25));
        checks.refuses("order of a wrong kind", Checks.ARGUMENT, x, () -> x.order(1, 1, 24));
        checks.refuses("aim of no gun", Checks.INDEX, x, () -> x.aim(1, 0));
        checks.refuses("aim at no square", Checks.INDEX, x, () -> x.aim(0, 25));
        checks.refuses("haul of no gun", Checks.INDEX, x, () -> x.haul(1, 1));
        checks.refuses("haul to no square", Checks.INDEX, x, () -> x.haul(0, 25));
        checks.refuses("right of no gun", Checks.INDEX, x, () -> x.right(1));
        checks.refuses("mine of no company", Checks.INDEX, x, () -> x.mine(2, 4));
        checks.refuses("aim", Checks.STATE, x, () -> x.aim(0, 0));
        checks.refuses("haul", Checks.STATE, x, () -> x.haul(0, 1));
        checks.refuses("right", Checks.STATE, x, () -> x.right(0));
        checks.refuses("mine", Checks.STATE, x, () -> x.mine(0, 0));
        checks.refuses("mine with a wrong direction", Checks.ARGUMENT, x, () -> x.mine(0, 4));
        checks.refuses("charge", Checks.INDEX, x, () -> x.charge(0, 1));
        checks.refuses("blow", Checks.INDEX, x, () -> x.blow(0));
        checks.refuses("letter", Checks.STATE, x, () -> x.letter());
        checks.refuses("expel", Checks.ARGUMENT, x, () -> x.expel(10));
        checks.refuses("parley", Checks.STATE, x, () -> x.parley() ? 1 : 0);
        checks.refuses("pass", Checks.STATE, x, () -> x.pass(1));
        checks.refuses("pass of no hour", Checks.ARGUMENT, x, () -> x.pass(0));
        checks.refuses("forecast", Checks.STATE, x, () -> x.forecast(1, 0));
        checks.refuses("forecast of no hour", Checks.ARGUMENT, x, () -> x.forecast(0, 0));
    }
}

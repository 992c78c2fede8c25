/** Part 6 and promise 28: what is eaten, who falls sick or deserts, supply and fires. */
final class MidnightTest {
    private static final Checks checks = new Checks("MidnightTest");

    public static void main(String[] args) {
        eats();
        hunger();
        hungerEnds();
        sick();
        sickInMarsh();
        fires();
        deserters();
        fewDeserters();
        supply();
        breaches();
        lifted();
        ofSide();
        checks.end();
    }

    /** Companies of 155 and 60 of the besiegers and of 149 of the garrison, with food for each side and people. */
    private static Siegelines camps(int food0, int food1, int people) {
        Siegelines x = Fields.plain(5, 5);
        x.stores(0, 50, food0, 9, 60);
        x.stores(1, 50, food1, 9, 60);
        x.town(people, 0, 10);
        x.company(0, 0, 155);
        x.company(1, 24, 149);
        x.company(0, 0, 60);
        x.begin();
        return x;
    }

    private static void eats() {
        Siegelines x = camps(100, 100, 59);
        x.pass(23);
        checks.due("nothing is eaten ahead of midnight", 200, x.ofSide(0, 1) + x.ofSide(1, 1));
        x.pass(1);
        checks.due("215 / 10", 79, x.ofSide(0, 1));
        checks.due("149 / 10 and 59 / 20", 84, x.ofSide(1, 1));
        checks.due("no hunger", 0, x.ofSide(0, 4) + x.ofSide(1, 4));
        checks.due("morale stays", 120, x.ofSide(0, 3) + x.ofSide(1, 3));
        Siegelines z = camps(100, 100, 60);
        z.pass(24);
        checks.due("149 / 10 and 60 / 20", 83, z.ofSide(1, 1));
        Siegelines y = camps(21, 16, 59);
        y.pass(24);
        checks.due("just enough", 0, y.ofSide(0, 4) + y.ofSide(1, 4));
        checks.due("all is eaten", 0, y.ofSide(0, 1) + y.ofSide(1, 1));
    }

    private static void hunger() {
        Siegelines x = camps(20, 15, 59);
        x.pass(24);
        checks.due("food is 0", 0, x.ofSide(0, 1) + x.ofSide(1, 1));
        checks.due("hunger of the besiegers", 1, x.ofSide(0, 4));
        checks.due("hunger of the garrison", 1, x.ofSide(1, 4));
        checks.due("morale of the besiegers", 54, x.ofSide(0, 3));
        checks.due("morale of the garrison", 54, x.ofSide(1, 3));
        checks.due("3 and 1, twice, are sick", 8, x.ofSide(0, 11));
        checks.due("2, twice", 4, x.ofSide(1, 11));
        x.pass(24);
        checks.due("two days", 2, x.ofSide(0, 4));
        checks.due("again", 48, x.ofSide(0, 3));
    }

    private static void hungerEnds() {
        Siegelines x = Fields.plain(5, 5);
        x.stores(0, 50, 9, 9, 60);
        x.town(0, 10, 10);
        x.company(0, 0, 49);
        x.company(1, 24, 49);
        x.company(0, 0, 48);
        x.company(0, 0, 9);
        x.begin();
        x.pass(24);
        checks.due("10 are too much for 9", 1, x.ofSide(0, 4));
        checks.due("the supply comes behind that", 10, x.ofSide(0, 1));
        x.pass(24);
        checks.due("enough again", 0, x.ofSide(0, 4));
        checks.due("10 less, 10 more", 10, x.ofSide(0, 1));
        checks.due("morale does not come back", 54, x.ofSide(0, 3));
    }

    private static void sick() {
        Siegelines x = Fields.plain(5, 5);
        x.stores(0, 50, 999, 9, 60);
        x.stores(1, 50, 999, 9, 60);
        int[] men = {200, 199, 100, 99, 50, 49};
        int[] left = {196, 196, 98, 98, 49, 49};
        for (int i = 0; i < 6; i++) {
            x.company(0, 0, men[i]);
            x.company(1, 24, men[i]);
        }
        x.begin();
        x.pass(24);
        for (int i = 0; i < 6; i++) {
            checks.due("left of " + men[i], left[i], x.ofCompany(2 * i, 2));
            checks.due("left of the garrison's " + men[i], left[i], x.ofCompany(2 * i + 1, 2));
        }
        checks.due("sick ones of the besiegers", 11, x.ofSide(0, 11));
        checks.due("sick ones of the garrison", 11, x.ofSide(1, 11));
        checks.due("they are no losses", 0, x.ofSide(0, 9) + x.ofSide(1, 9));
    }

    private static void sickInMarsh() {
        Siegelines x = Fields.plain(5, 5);
        x.ground(1, 0, 2, 0, 0);
        x.ground(2, 0, 2, 0, 0);
        x.ground(3, 0, 3, 0, 0);
        x.stores(1, 0, 999, 0, 60);
        x.company(0, 1, 199);
        x.company(1, 2, 199);
        x.company(0, 3, 199);
        x.begin();
        x.pass(24);
        checks.due("hungry, in a marsh", 190, x.ofCompany(0, 2));
        checks.due("the garrison does not mind a marsh", 196, x.ofCompany(1, 2));
        checks.due("hungry, on rock", 193, x.ofCompany(2, 2));
        Siegelines y = Fields.plain(5, 5);
        y.ground(1, 0, 2, 0, 0);
        y.stores(0, 0, 999, 0, 60);
        y.company(0, 1, 100);
        y.company(1, 24, 100);
        y.begin();
        y.pass(24);
        checks.due("in a marsh alone", 96, y.ofCompany(0, 2));
    }

    /** A town at 4 under a mortar at 0 for so many hours ahead of midnight, a company of 150 on gate. */
    private static Siegelines burning(int hours) {
        Siegelines x = Fields.plain(5, 5);
        x.ground(4, 0, 0, 3, 0);
        x.stores(0, 999, 999, 9, 60);
        x.stores(1, 999, 999, 9, 60);
        x.gun(0, 0, 3);
        x.company(0, 0, 150);
        x.company(1, 24, 150);
        x.begin();
        x.pass(24 - hours);
        x.aim(0, 4);
        return x;
    }

    private static void fires() {
        Siegelines x = burning(15);
        x.pass(14);
        checks.due("fires", 20, x.ofSiege(6));
        x.pass(1);
        checks.due("21, of which the half is left", 10, x.ofSiege(6));
        checks.due("above 20 they make sick", 144, x.ofCompany(1, 2));
        checks.due("not the besiegers", 147, x.ofCompany(0, 2));
        Siegelines y = burning(14);
        y.pass(14);
        checks.due("20, of which the half is left", 10, y.ofSiege(6));
        checks.due("20 do not", 147, y.ofCompany(1, 2));
        y.aim(0, -1);
        y.pass(24);
        checks.due("5 the next day", 5, y.ofSiege(6));
        y.pass(48);
        checks.due("1 two days on", 1, y.ofSiege(6));
        y.pass(24);
        checks.due("none at last", 0, y.ofSiege(6));
    }

    private static void deserters() {
        int[] morales = {37, 38, 40, 45, 21, 1};
        int[] left = {195, 196, 196, 196, 187, 177};
        for (int i = 0; i < morales.length; i++) {
            Siegelines x = Fields.plain(5, 5);
            x.stores(0, 0, 999, 0, 60);
            x.stores(1, 0, 999, 0, morales[i]);
            x.company(0, 0, 200);
            x.company(1, 24, 200);
            x.company(1, 24, 9);
            x.begin();
            x.pass(24);
            checks.due("left with morale " + morales[i], left[i], x.ofCompany(1, 2));
            checks.due("few lose none", 9, x.ofCompany(2, 2));
            checks.due("deserters are losses", 196 - left[i], x.ofSide(1, 9));
            checks.due("sick ones are not", 4, x.ofSide(1, 11));
        }
        Siegelines y = Fields.plain(5, 5);
        y.stores(0, 0, 0, 0, 45);
        y.stores(1, 0, 0, 0, 46);
        y.company(0, 0, 199);
        y.company(1, 24, 199);
        y.begin();
        y.pass(24);
        checks.due("45 less 6 is below 40: 193 less 0", 193, y.ofCompany(0, 2));
        y.pass(24);
        checks.due("33: 187 less 3", 184, y.ofCompany(0, 2));
        checks.due("34: 187 less 2", 185, y.ofCompany(1, 2));
        checks.due("losses of the besiegers", 3, y.ofSide(0, 9));
        for (int side = 0; side < 2; side++) {
            Siegelines x = Fields.plain(5, 5);
            x.stores(side, 0, 999, 0, 20);
            x.company(side, side * 24, 121);
            x.company(1 - side, 24 - side * 24, 9);
            x.begin();
            x.pass(24);
            checks.due("2 are sick first, then 119 * 20 / 400", 5, x.ofSide(side, 9));
            checks.due("left", 114, x.ofCompany(0, 2));
        }
    }

    private static void fewDeserters() {
        int[][] few = {{40, 20, 2}, {39, 20, 1}, {20, 20, 1}, {19, 20, 0}, {21, 21, 0}, {22, 21, 1}, {49, 39, 0},
            {10, 1, 0}, {11, 1, 1}};
        for (int[] f : few) {
            for (int side = 0; side < 2; side++) {
                Siegelines x = Fields.plain(5, 5);
                x.stores(side, 0, 999, 0, f[1]);
                x.stores(1 - side, 0, 999, 0, 60);
                x.company(side, side * 24, f[0]);
                x.company(1 - side, 24 - side * 24, 49);
                x.begin();
                x.pass(24);
                checks.due("deserters of " + f[0] + " with morale " + f[1], f[2], x.ofSide(side, 9));
                checks.due("none of the other", 0, x.ofSide(1 - side, 9));
            }
        }
    }

    private static void supply() {
        Siegelines x = Fields.plain(5, 5);
        x.stores(0, 5, 100, 0, 60);
        x.stores(1, 5, 100, 0, 60);
        x.town(0, 30, 1);
        x.company(0, 0, 9);
        x.company(1, 24, 9);
        x.begin();
        x.pass(23);
        checks.due("none ahead of midnight", 5, x.ofSide(0, 0));
        x.pass(1);
        checks.due("powder", 35, x.ofSide(0, 0));
        checks.due("food", 130, x.ofSide(0, 1));
        checks.due("no powder for the garrison", 5, x.ofSide(1, 0));
        checks.due("no food for it", 100, x.ofSide(1, 1));
        checks.holds("sound with supply", x.isSound());
        x.pass(24);
        checks.due("each day", 65, x.ofSide(0, 0));
    }

    private static void breaches() {
        Siegelines x = Fields.plain(5, 5);
        x.ground(11, 0, 0, 6, 0);
        x.ground(12, 0, 0, 6, 0);
        x.ground(13, 0, 0, 6, 0);
        x.stores(0, 0, 999, 0, 60);
        x.stores(1, 0, 999, 0, 41);
        x.company(0, 0, 9);
        x.company(1, 24, 199);
        x.begin();
        x.pass(24);
        checks.due("1 less for each breach", 38, x.ofSide(1, 3));
        checks.due("behind the deserters", 0, x.ofSide(1, 9));
        checks.due("none for the besiegers", 60, x.ofSide(0, 3));
        x.pass(24);
        checks.due("then they go: 193 * 2 / 400", 0, x.ofSide(1, 9));
        x.pass(24);
        checks.due("190 * 5 / 400", 2, x.ofSide(1, 9));
    }

    private static void lifted() {
        Siegelines x = Fields.plain(5, 5);
        x.stores(0, 0, 0, 0, 6);
        x.stores(1, 0, 999, 0, 60);
        x.company(0, 0, 9);
        x.company(0, 0, 9);
        x.company(1, 24, 9);
        x.begin();
        x.pass(30);
        checks.due("over", 2, x.ofSiege(1));
        checks.due("lifted", -1, x.ofSiege(2));
        checks.due("the clock stays at 23", 23, x.ofSiege(0));
        checks.due("morale", 0, x.ofSide(0, 3));
        Siegelines y = Fields.plain(5, 5);
        y.stores(0, 0, 0, 0, 7);
        y.stores(1, 0, 999, 0, 60);
        y.company(0, 0, 10);
        y.company(1, 24, 9);
        y.begin();
        y.pass(24);
        checks.due("with morale of 1 it goes on", 1, y.ofSiege(1));
    }

    private static void ofSide() {
        Siegelines x = camps(100, 70, 0);
        int[] besiegers = {50, 100, 9, 60, 0, 215, 2, 0, 0, 0, 0, 0, 0};
        int[] garrison = {50, 70, 9, 60, 0, 149, 1, 0, 0, 0, 0, 0, 0};
        for (int what = 0; what <= 12; what++) {
            checks.due("ofSide(0) of " + what, besiegers[what], x.ofSide(0, what));
            checks.due("ofSide(1) of " + what, garrison[what], x.ofSide(1, what));
        }
        int[][] wrong = {{-1, 0}, {2, 0}, {0, -1}, {0, 13}, {1, Integer.MAX_VALUE}};
        for (int[] w : wrong) {
            checks.refuses("ofSide(" + w[0] + ", " + w[1] + ")", Checks.ARGUMENT, x, () -> x.ofSide(w[0], w[1]));
        }
    }
}

/** Part 4 but its fights, promises 26, 31 and 33: what companies do. */
final class CompaniesTest {
    private static final Checks checks = new Checks("CompaniesTest");

    public static void main(String[] args) {
        tiredness();
        digBySoil();
        digByLittle();
        digSeen();
        digInMarsh();
        digWithoutGabions();
        digOnWorks();
        digNothing();
        make();
        marchOn();
        marchAround();
        marchForbidden();
        marchOfGarrison();
        marchByFew();
        mendWall();
        mendBreach();
        mendByLittle();
        mendNothing();
        sap();
        sapWrong();
        ofCompany();
        checks.end();
    }

    private static void tiredness() {
        Siegelines x = Fields.begun(5, 5);
        x.order(0, 5, 24);
        int[] storming = {1, 2, 3, 4, 5, 6, 7, 8, 9, 10, 8, 9, 10, 8};
        for (int tired : storming) {
            x.pass(1);
            checks.due("tired by a vain storm, but rests with 10", tired, x.ofCompany(0, 3));
        }
        checks.due("the order stays", 5, x.ofCompany(0, 4));
        checks.due("the goal stays", 24, x.ofCompany(0, 5));
        x.order(0, 2, 0);
        int[] guarding = {7, 6, 5, 4, 3, 2, 1, 0, 0};
        for (int tired : guarding) {
            x.pass(1);
            checks.due("tired at guard", tired, x.ofCompany(0, 3));
        }
        x.order(0, 5, 24);
        x.pass(3);
        x.order(0, 0, 0);
        int[] resting = {1, 0, 0};
        for (int tired : resting) {
            x.pass(1);
            checks.due("tired at rest", tired, x.ofCompany(0, 3));
        }
        x.order(0, 2, 0);
        x.pass(1);
        checks.due("tired of 0 at guard", 0, x.ofCompany(0, 3));
        checks.due("guard stays", 2, x.ofCompany(0, 4));
        for (int order = 1; order <= 5; order++) {
            if (order == 2) {
                continue;
            }
            Siegelines y = Fields.begun(5, 5);
            y.order(0, order, 20);
            y.pass(1);
            checks.due("tired by order " + order, 1, y.ofCompany(0, 3));
        }
    }

    /** A company of some men on camp that is to dig at 1, of a soil; with a gun of the garrison at 3, or without. */
    private static Siegelines digging(int soil, int men, int gabions, boolean isSeen) {
        Siegelines x = Fields.plain(5, 5);
        x.ground(1, 0, soil, 0, 0);
        x.stores(0, 0, 500, gabions, 60);
        if (isSeen) {
            x.gun(1, 3, 3);
        }
        x.company(0, 0, men);
        x.company(1, 24, 10);
        x.begin();
        x.order(0, 1, 1);
        return x;
    }

    private static void digBySoil() {
        int[] need = {20, 30, 24, 60};
        for (int soil = 0; soil < 4; soil++) {
            Siegelines x = digging(soil, 49, 5, false);
            int hours = (need[soil] + 3) / 4;
            for (int hour = 1; hour < hours && hour < 10; hour++) {
                x.pass(1);
                checks.due("toil on soil " + soil, 4 * hour, x.ofSquare(1, 4));
                checks.due("no trench on soil " + soil, 0, x.ofSquare(1, 2));
                checks.due("it still digs", 1, x.ofCompany(0, 4));
                checks.due("where it was", 0, x.ofCompany(0, 1));
            }
            x.pass(hours < 10 ? 1 : 12);
            checks.due("a trench on soil " + soil, 5, x.ofSquare(1, 2));
            checks.due("toil is gone", 0, x.ofSquare(1, 4));
            checks.due("the company is there", 1, x.ofCompany(0, 1));
            checks.due("it rests", 0, x.ofCompany(0, 4));
            checks.due("it has no goal", -1, x.ofCompany(0, 5));
            checks.due("gabions by soil " + soil, soil == 2 ? 3 : 5, x.ofSide(0, 2));
            checks.due("the trench belongs to the besiegers", 0, x.ofSquare(1, 7));
            checks.due("trenches", 1, x.ofSiege(11));
        }
    }

    /** One less than the toil that is needed does not do, and just as much does. */
    private static void digByLittle() {
        int[] need = {20, 30, 24, 60};
        int[] men = {90, 140, 110, 190};
        int[] hours = {2, 2, 2, 3};
        for (int soil = 0; soil < 4; soil++) {
            int toil = men[soil] / 10 * hours[soil];
            Siegelines y = Fields.plain(5, 5);
            y.ground(6, 0, soil, 0, 0);
            y.stores(0, 0, 500, 2, 60);
            y.company(0, 1, men[soil]);
            y.company(0, 7, 19);
            y.company(1, 24, 10);
            y.begin();
            y.order(0, 1, 6);
            y.pass(hours[soil]);
            y.order(0, 0, 0);
            y.order(1, 1, 6);
            for (int more = toil + 1; more < need[soil]; more++) {
                y.pass(1);
                checks.due("19 men have 1 of toil", more, y.ofSquare(6, 4));
                checks.due("too little on soil " + soil, 0, y.ofSquare(6, 2));
            }
            y.pass(1);
            checks.due("enough on soil " + soil, 5, y.ofSquare(6, 2));
            checks.due("who ends it is there", 6, y.ofCompany(1, 1));
        }
    }

    private static void digSeen() {
        Siegelines x = digging(0, 200, 1, true);
        x.pass(1);
        checks.due("a trench that is seen", 5, x.ofSquare(1, 2));
        checks.due("takes a gabion", 0, x.ofSide(0, 2));
        Siegelines y = digging(0, 200, 0, true);
        y.pass(1);
        checks.due("no gabion, no trench", 0, y.ofSquare(1, 2));
        checks.due("toil stays", 20, y.ofSquare(1, 4));
        Siegelines z = digging(0, 200, 0, false);
        z.pass(1);
        checks.due("unseen it takes none", 5, z.ofSquare(1, 2));
        Siegelines w = Fields.plain(9, 5);
        w.gun(1, 8, 1);
        w.gun(0, 2, 1);
        w.stores(0, 0, 500, 0, 60);
        w.company(0, 0, 200);
        w.company(1, 44, 1);
        w.begin();
        w.order(0, 1, 1);
        w.pass(1);
        checks.due("by night a gun 7 away does not see it, nor count own ones", 5, w.ofSquare(1, 2));
        w.pass(4);
        w.order(0, 1, 2);
        w.pass(1);
        checks.due("by day one sees 6 far", 0, w.ofSquare(2, 2));
        checks.due("its toil", 20, w.ofSquare(2, 4));
    }

    private static void digInMarsh() {
        Siegelines x = digging(2, 200, 1, false);
        x.pass(3);
        checks.due("one gabion is too little in a marsh", 0, x.ofSquare(1, 2));
        checks.due("toil goes on", 60, x.ofSquare(1, 4));
        checks.due("the gabion is left", 1, x.ofSide(0, 2));
        Siegelines y = digging(2, 200, 2, true);
        y.pass(2);
        checks.due("two are enough, seen or not", 5, y.ofSquare(1, 2));
        checks.due("they are gone", 0, y.ofSide(0, 2));
    }

    private static void digWithoutGabions() {
        Siegelines x = digging(0, 100, 0, true);
        x.pass(4);
        checks.due("toil stays and grows", 40, x.ofSquare(1, 4));
        checks.due("the order stays", 1, x.ofCompany(0, 4));
        checks.due("the goal stays", 1, x.ofCompany(0, 5));
        checks.due("tired all the same", 4, x.ofCompany(0, 3));
        x.order(0, 3, 0);
        x.pass(1);
        checks.due("gabions made", 5, x.ofSide(0, 2));
        x.order(0, 1, 1);
        x.pass(1);
        checks.due("now it is done", 5, x.ofSquare(1, 2));
        checks.due("one is gone", 4, x.ofSide(0, 2));
    }

    private static void digOnWorks() {
        int[] after = {5, 1, 2, 3, 5, 5, 5, 5};
        for (int work = 0; work <= 7; work++) {
            Siegelines x = Fields.plain(5, 5);
            x.ground(6, 4, 0, work, 50);
            x.company(0, 1, 200);
            x.company(1, 24, 1);
            x.begin();
            x.order(0, 1, 6);
            x.pass(1);
            checks.due("digging on work " + work, after[work], x.ofSquare(6, 2));
            checks.due("how firm it is then", work == 1 ? 50 : 0, x.ofSquare(6, 3));
            checks.due("its height stays", 4, x.ofSquare(6, 0));
            boolean isDone = after[work] == 5 && work != 5;
            checks.due("where the company is", isDone ? 6 : 1, x.ofCompany(0, 1));
            checks.due("its order", isDone ? 0 : 1, x.ofCompany(0, 4));
            checks.due("toil", 0, x.ofSquare(6, 4));
        }
    }

    private static void digNothing() {
        Siegelines x = Fields.plain(5, 5);
        x.camp(6, 8);
        x.company(0, 7, 200);
        x.company(1, 2, 1);
        x.begin();
        int[] goals = {6, 8, 2, 7, 13, 11, 22};
        for (int goal : goals) {
            x.order(0, 1, goal);
            x.pass(1);
            checks.due("no toil at " + goal, 0, x.ofSquare(goal, 4));
            checks.due("no trench at " + goal, 0, x.ofSquare(goal, 2));
        }
        checks.due("tired each time", 7, x.ofCompany(0, 3));
        x.order(0, 1, 12);
        x.pass(1);
        checks.due("but at 12", 5, x.ofSquare(12, 2));
        Siegelines two = Fields.plain(5, 5);
        two.company(0, 1, 100);
        two.company(0, 7, 100);
        two.company(1, 24, 1);
        two.begin();
        two.order(0, 1, 6);
        two.order(1, 1, 6);
        two.pass(1);
        checks.due("two dig at one square: one is there", 6, two.ofCompany(1, 1));
        checks.due("the other stays", 1, two.ofCompany(0, 1));
        checks.due("and keeps its order", 1, two.ofCompany(0, 4));
    }

    private static void make() {
        Siegelines x = Fields.plain(5, 5);
        x.ground(12, 0, 0, 3, 0);
        x.stores(0, 0, 99, 1, 60);
        x.stores(1, 0, 99, 2, 60);
        x.company(0, 0, 119);
        x.company(0, 1, 119);
        x.company(1, 24, 119);
        x.company(1, 12, 39);
        x.begin();
        x.order(0, 3, 0);
        x.order(1, 3, 0);
        x.order(2, 3, 0);
        x.order(3, 3, 0);
        x.pass(1);
        checks.due("on camp, not beside it", 6, x.ofSide(0, 2));
        checks.due("in the town, not on gate", 3, x.ofSide(1, 2));
        checks.due("it goes on", 3, x.ofCompany(0, 4));
        x.pass(1);
        checks.due("on camp again", 11, x.ofSide(0, 2));
        Siegelines town = Fields.plain(5, 5);
        town.ground(6, 0, 0, 3, 0);
        town.company(0, 1, 100);
        town.company(1, 24, 100);
        town.begin();
        town.order(0, 5, 6);
        town.pass(1);
        town.order(0, 3, 0);
        town.pass(1);
        checks.due("besiegers in the town, too", 5, town.ofSide(0, 2));
        checks.due("for their own side", 0, town.ofSide(1, 2));
    }

    private static void marchOn() {
        Siegelines x = Fields.begun(5, 5);
        checks.due("how far", 7, x.march(0, 23));
        x.order(0, 4, 23);
        int[] squares = {1, 2, 3, 8, 13, 18, 23};
        for (int i = 0; i < squares.length; i++) {
            checks.due("the order on the way", 4, x.ofCompany(0, 4));
            x.pass(1);
            checks.due("the smallest number first", squares[i], x.ofCompany(0, 1));
            checks.due("tired on the way", i + 1, x.ofCompany(0, 3));
            checks.due("what is left", 6 - i, x.march(0, 23));
        }
        checks.due("it rests", 0, x.ofCompany(0, 4));
        checks.due("it has no goal", -1, x.ofCompany(0, 5));
        x.order(0, 4, 23);
        x.pass(1);
        checks.due("a march to where it is", 0, x.ofCompany(0, 4));
        checks.due("makes tired", 8, x.ofCompany(0, 3));
        checks.due("no way to gate", -1, x.march(0, 24));
        x.order(0, 4, 24);
        x.pass(1);
        checks.due("it stays", 23, x.ofCompany(0, 1));
        checks.due("its order stays", 4, x.ofCompany(0, 4));
        checks.due("tired in vain", 9, x.ofCompany(0, 3));
        x.order(0, 4, 20);
        x.pass(1);
        checks.due("back", 22, x.ofCompany(0, 1));
        x.pass(1);
        checks.due("tired of 10 it rests on the way", 22, x.ofCompany(0, 1));
        checks.due("tired of 8 then", 8, x.ofCompany(0, 3));
        x.pass(1);
        checks.due("and goes on", 21, x.ofCompany(0, 1));
    }

    private static void marchAround() {
        Siegelines x = Fields.plain(5, 5);
        x.ground(1, 0, 0, 2, 0);
        x.ground(6, 0, 0, 7, 0);
        x.ground(11, 0, 0, 1, 9);
        x.ground(16, 0, 0, 4, 0);
        x.company(0, 0, 10);
        x.company(1, 24, 10);
        x.begin();
        checks.due("into a ditch as a goal", 1, x.march(0, 1));
        checks.due("into a crater as a goal", 2, x.march(0, 6));
        checks.due("around ditch, crater, wall and cover", 10, x.march(0, 2));
        checks.due("not onto a wall", -1, x.march(0, 11));
        checks.due("not into a cover", -1, x.march(0, 16));
        checks.due("it is there", 0, x.march(0, 0));
        x.order(0, 4, 2);
        int[] way = {5, 10, 15, 20, 21, 22, 17, 12, 7};
        for (int square : way) {
            x.pass(1);
            checks.due("around", square, x.ofCompany(0, 1));
        }
        Siegelines y = Fields.plain(5, 5);
        y.ground(1, 0, 0, 6, 0);
        y.ground(2, 0, 0, 5, 0);
        y.company(0, 0, 10);
        y.company(1, 24, 10);
        checks.due("over a breach and a trench", 3, y.march(0, 3));
    }

    private static void marchForbidden() {
        Siegelines x = Fields.plain(5, 5);
        x.company(0, 0, 10);
        x.company(1, 1, 10);
        x.company(1, 6, 10);
        x.company(1, 11, 10);
        x.company(1, 16, 10);
        x.company(0, 23, 10);
        checks.due("around companies of the garrison", 10, x.march(0, 2));
        checks.due("not to where one is", -1, x.march(0, 6));
        checks.due("own companies do not hinder", 7, x.march(0, 23));
        x.company(1, 21, 10);
        checks.due("no way through", -1, x.march(0, 2));
        x.begin();
        x.order(0, 4, 2);
        x.pass(1);
        checks.due("it stays where it is", 0, x.ofCompany(0, 1));
        checks.refuses("march of none", Checks.INDEX, x, () -> x.march(7, 0));
        checks.refuses("march of -1", Checks.INDEX, x, () -> x.march(-1, 0));
        checks.refuses("march to 25", Checks.INDEX, x, () -> x.march(0, 25));
        checks.refuses("march to -1", Checks.INDEX, x, () -> x.march(0, -1));
    }

    private static void marchOfGarrison() {
        Siegelines x = Fields.plain(5, 5);
        x.ground(23, 0, 0, 1, 9);
        x.ground(22, 0, 0, 3, 0);
        x.ground(21, 0, 0, 4, 0);
        x.ground(20, 0, 0, 5, 0);
        x.ground(19, 0, 0, 2, 0);
        x.company(0, 0, 10);
        x.company(1, 24, 10);
        checks.due("over wall and town into the cover", 3, x.march(1, 21));
        checks.due("not into a trench", -1, x.march(1, 20));
        checks.due("not to camp", -1, x.march(1, 0));
        checks.due("into the ditch", 1, x.march(1, 19));
        checks.due("over the wall and on", 3, x.march(1, 17));
        checks.due("not through the ditch, but around it", 4, x.march(1, 14));
        x.begin();
        x.order(1, 4, 21);
        x.pass(3);
        checks.due("it is in the cover", 21, x.ofCompany(1, 1));
        checks.due("at rest", 0, x.ofCompany(1, 4));
    }

    /** One man bars a way, one that is gone does not. */
    private static void marchByFew() {
        for (int side = 0; side < 2; side++) {
            Siegelines x = Fields.plain(5, 5);
            x.camp(24, 20);
            x.company(side, 0, 200);
            x.company(1 - side, 1, 1);
            x.company(1 - side, 12, 1);
            x.begin();
            checks.due("around one man", 4, x.march(0, 2));
            checks.due("not to where he is", -1, x.march(0, 1));
            x.order(1, 5, 0);
            x.pass(1);
            checks.due("he is gone", 0, x.ofCompany(1, 2));
            checks.due("no more around him", 2, x.march(0, 2));
            checks.due("to where he fell", 1, x.march(0, 1));
        }
    }

    private static void mendWall() {
        Siegelines x = Fields.plain(5, 5);
        x.ground(23, 0, 0, 1, 48);
        x.ground(18, 0, 0, 1, 61);
        x.company(0, 0, 10);
        x.company(1, 24, 119);
        x.company(1, 18, 119);
        x.begin();
        x.order(1, 6, 23);
        x.pass(1);
        checks.due("by men / 20", 53, x.ofSquare(23, 3));
        x.pass(1);
        checks.due("again", 58, x.ofSquare(23, 3));
        x.order(2, 6, 18);
        x.pass(1);
        checks.due("60 at most", 60, x.ofSquare(23, 3));
        checks.due("what is above 60 stays", 61, x.ofSquare(18, 3));
        checks.due("it goes on", 6, x.ofCompany(1, 4));
        Siegelines y = Fields.plain(5, 5);
        y.ground(18, 0, 0, 1, 5);
        y.company(0, 0, 10);
        y.company(1, 18, 200);
        y.company(1, 24, 200);
        y.begin();
        y.order(1, 6, 18);
        y.order(2, 6, 18);
        y.pass(1);
        checks.due("its own square, but not from 24", 15, y.ofSquare(18, 3));
    }

    private static void mendBreach() {
        Siegelines x = Fields.plain(5, 5);
        x.ground(23, 2, 1, 6, 0);
        x.company(0, 0, 10);
        x.company(1, 24, 159);
        x.begin();
        x.order(1, 6, 23);
        for (int hour = 1; hour <= 5; hour++) {
            x.pass(1);
            checks.due("toil", 15 * hour, x.ofSquare(23, 4));
            checks.due("still a breach", 6, x.ofSquare(23, 2));
        }
        x.pass(1);
        checks.due("a wall", 1, x.ofSquare(23, 2));
        checks.due("firm 10", 10, x.ofSquare(23, 3));
        checks.due("height 1 more", 3, x.ofSquare(23, 0));
        checks.due("its soil stays", 1, x.ofSquare(23, 1));
        checks.due("toil is gone", 0, x.ofSquare(23, 4));
        checks.due("no breach", 0, x.ofSiege(10));
        x.pass(1);
        checks.due("it mends on", 17, x.ofSquare(23, 3));
        Siegelines y = Fields.plain(5, 5);
        y.ground(18, 9, 1, 6, 0);
        y.company(0, 0, 10);
        for (int i = 0; i < 4; i++) {
            y.company(1, i < 2 ? 18 : 23, 200);
        }
        y.begin();
        for (int i = 1; i <= 4; i++) {
            y.order(i, 6, 18);
        }
        y.pass(1);
        checks.due("80 by four companies, of height 9", 1, y.ofSquare(18, 2));
        checks.due("9 at most", 9, y.ofSquare(18, 0));
    }

    /** A breach that has toil of 79, by companies of 150 and 10, is a wall by 1 more; a wall of 57 is 60 in two hours. */
    private static void mendByLittle() {
        Siegelines x = Fields.plain(5, 5);
        x.ground(18, 0, 0, 6, 0);
        x.ground(22, 0, 0, 1, 57);
        x.company(0, 0, 10);
        x.company(1, 17, 150);
        x.company(1, 23, 19);
        x.company(1, 21, 59);
        x.begin();
        x.order(1, 6, 18);
        x.pass(5);
        x.order(1, 0, 0);
        x.order(2, 6, 18);
        x.pass(4);
        checks.due("toil of 75 and 4", 79, x.ofSquare(18, 4));
        checks.due("too little", 6, x.ofSquare(18, 2));
        x.pass(1);
        checks.due("80 are enough", 1, x.ofSquare(18, 2));
        x.order(3, 6, 22);
        int[] firm = {59, 60, 60};
        for (int want : firm) {
            x.pass(1);
            checks.due("59 men by 2, to 60", want, x.ofSquare(22, 3));
        }
    }

    private static void mendNothing() {
        Siegelines x = Fields.plain(5, 5);
        x.ground(18, 0, 0, 6, 0);
        x.ground(22, 0, 0, 1, 9);
        x.ground(17, 0, 0, 3, 0);
        x.company(1, 23, 200);
        x.company(0, 18, 5);
        x.company(1, 24, 5);
        x.begin();
        x.order(0, 6, 18);
        x.pass(1);
        checks.due("not with a company of the besiegers there", 0, x.ofSquare(18, 4));
        x.order(0, 6, 23);
        x.pass(1);
        checks.due("not what is no wall", 0, x.ofSquare(23, 2) + x.ofSquare(23, 4));
        x.order(2, 6, 22);
        x.pass(1);
        checks.due("not what does not touch", 9, x.ofSquare(22, 3));
        checks.due("men below 20 mend nothing", 1, x.ofCompany(2, 3));
        checks.due("tired all the same", 3, x.ofCompany(0, 3));
    }

    private static void sap() {
        Siegelines x = Fields.plain(9, 5);
        x.company(0, 0, 10);
        checks.due("of two as far from gate the first", 1, x.sap(0));
        x.company(0, 20, 10);
        checks.due("the nearest to gate", 21, x.sap(1));
        x.gun(1, 39, 1);
        checks.due("guns that see it", 1, x.underFire(21, 1, 0));
        checks.due("that see another one", 1, x.underFire(11, 1, 0));
        x.ground(29, 0, 0, 1, 5);
        checks.due("19 is not seen behind the wall", 0, x.underFire(19, 1, 0));
        checks.due("the fewest guns first", 19, x.sap(1));
        x.company(1, 19, 1);
        checks.due("but no company of the garrison there", 21, x.sap(1));
        checks.due("none for the garrison", -1, x.sap(2));
        Siegelines own = Fields.plain(9, 5);
        own.camp(0, 9);
        own.ground(19, 3, 0, 0, 0);
        own.ground(28, 3, 0, 0, 0);
        own.gun(0, 18, 1);
        own.company(0, 20, 10);
        checks.due("a gun of the besiegers sees 19", 1, own.underFire(19, 0, 0));
        checks.due("and nothing else", 0, own.underFire(11, 0, 0) + own.underFire(21, 0, 0) + own.underFire(29, 0, 0));
        checks.due("it does not count", 19, own.sap(0));
        Siegelines y = Fields.plain(9, 5);
        y.camp(1, 44);
        y.ground(9, 0, 0, 2, 0);
        y.company(0, 0, 10);
        y.company(1, 44, 10);
        checks.due("neither camp nor ditch", -1, y.sap(0));
        y.begin();
        checks.due("nor in the siege", -1, y.sap(0));
        Siegelines z = Fields.plain(9, 5);
        z.camp(30, 12);
        z.company(0, 11, 10);
        z.company(0, 13, 10);
        checks.due("not gate; of those beside it the first", 2, z.sap(0));
        checks.due("and on the other side", 4, z.sap(1));
    }

    private static void sapWrong() {
        Siegelines x = Fields.begun(9, 5);
        checks.refuses("sap of none", Checks.INDEX, x, () -> x.sap(2));
        checks.refuses("sap of -1", Checks.INDEX, x, () -> x.sap(-1));
        Siegelines gone = Fields.plain(5, 5);
        gone.company(0, 1, 1);
        gone.company(1, 2, 200);
        gone.company(0, 0, 1);
        gone.begin();
        gone.order(0, 5, 2);
        gone.pass(1);
        checks.due("none for one that is gone", -1, gone.sap(0));
        checks.due("no march for it", -1, gone.march(0, 0));
        checks.due("not to where it is", -1, gone.march(0, 1));
        checks.due("no storm for it", -1, gone.storm(0, 2));
        checks.due("its force", 0, gone.ofCompany(0, 6));
        checks.due("its square stays", 1, gone.ofCompany(0, 1));
        checks.due("no sign of it", 0, gone.row(0).indexOf("o.x"));
    }

    private static void ofCompany() {
        Siegelines x = Fields.plain(5, 5);
        x.stores(0, 0, 50, 0, 33);
        x.company(0, 0, 77);
        x.company(1, 24, 1);
        x.begin();
        x.order(0, 4, 20);
        x.pass(2);
        int[] want = {0, 10, 77, 2, 4, 20, 77 * 12 * 83 / 100};
        for (int what = 0; what <= 6; what++) {
            checks.due("ofCompany of " + what, want[what], x.ofCompany(0, what));
        }
        checks.refuses("ofCompany of none", Checks.INDEX, x, () -> x.ofCompany(2, 7));
        checks.refuses("ofCompany of -1", Checks.INDEX, x, () -> x.ofCompany(-1, 0));
        checks.refuses("ofCompany of 7", Checks.ARGUMENT, x, () -> x.ofCompany(0, 7));
        checks.refuses("ofCompany of what -1", Checks.ARGUMENT, x, () -> x.ofCompany(0, -1));
    }
}

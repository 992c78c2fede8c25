/** A map of 6 by 5 that has each work, a siege upon it, and that siege when it is over. */
final class Boards {
    /** Where the works of 1 to 7 are. */
    static final int[] WORKS = {-1, 7, 8, 9, 10, 13, 14, 15};
    static final int CAMP = 0;
    static final int GATE = 29;

    private Boards() {
    }

    /** The map alone; 0 is camp, 29 gate. */
    static Siegelines map() {
        Siegelines x = new Siegelines();
        x.lay(6, 5, 100);
        for (int work = 1; work <= 7; work++) {
            x.ground(WORKS[work], 1, 0, work, 20);
        }
        return x;
    }

    /** Five guns (1 is of the garrison, at 3) and six companies (1, 3 and 5 are of the garrison). */
    static Siegelines placed() {
        return placed(300);
    }

    private static Siegelines placed(int powder) {
        Siegelines x = map();
        x.stores(0, 300, 500, 20, 60);
        x.stores(1, powder, 500, 20, 30);
        x.town(100, 5, 9);
        x.gun(0, 0, 1);
        x.gun(1, 3, 1);
        x.gun(0, 0, 1);
        x.gun(0, 0, 1);
        x.gun(0, 0, 1);
        x.company(0, 13, 100);
        x.company(1, 29, 100);
        x.company(0, 1, 50);
        x.company(1, 3, 60);
        x.company(0, 2, 1);
        x.company(1, 9, 30);
        return x;
    }

    /** After an hour: gun 1 is dismounted, company 4 gone, mines 0 and 2 have a charge, 1 has none. */
    static Siegelines siege() {
        return siege(300);
    }

    private static Siegelines siege(int powder) {
        Siegelines x = placed(powder);
        x.begin();
        for (int gun = 2; gun <= 4; gun++) {
            x.aim(gun, 3);
        }
        x.order(4, 5, 3);
        x.pass(1);
        x.mine(0, 1);
        x.mine(0, 2);
        x.mine(5, 0);
        x.charge(0, 5);
        x.charge(2, 5);
        return x;
    }

    /** The garrison gave up. */
    static Siegelines over() {
        Siegelines x = siege();
        x.parley();
        return x;
    }

    /** Mine 0 was blown and crushed mine 2. */
    static Siegelines afterBlow() {
        Siegelines x = siege();
        x.charge(0, 60);
        x.blow(0);
        return x;
    }

    /** The garrison has powder of 5 left. */
    static Siegelines scarce() {
        return siege(10);
    }
}

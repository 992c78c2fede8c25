/** The full field: 16 guns, 12 companies, 6 mines and 6 letters at once. */
final class FullFieldTest {
    private static final Checks checks = new Checks("FullFieldTest");

    public static void main(String[] args) {
        nothingMoreIsTaken();
        numbersUpToTheLast();
        allGunsFire();
        allGunsAtOneSquare();
        allCompaniesAct();
        allCompaniesFight();
        allMinesGoOn();
        allMinesAreBlown();
        allLettersAreThrough();
        allAtOnce();
        fullStores();
        checks.end();
    }

    /** 16 guns, 12 companies: of each side every other one, on a trench at 13 and a town at 16 of 6 by 5. */
    static Siegelines setting() {
        Siegelines x = new Siegelines();
        x.lay(6, 5, 100);
        x.ground(13, 0, 0, 5, 0);
        x.ground(16, 0, 0, 3, 0);
        x.stores(0, 9999, 9999, 999, 100);
        x.stores(1, 9999, 9999, 999, 100);
        x.town(2000, 200, 40);
        for (int number = 0; number < 16; number++) {
            x.gun(number % 2, number % 2 == 0 ? 13 : 16, 1 + number % 3);
        }
        for (int number = 0; number < 12; number++) {
            x.company(number % 2, number % 2 == 0 ? 13 : 16, 200);
        }
        return x;
    }

    /** The siege with 6 mines, half of them with a charge, and 6 letters. */
    static Siegelines field() {
        Siegelines x = setting();
        x.begin();
        for (int number = 0; number < 6; number++) {
            x.mine(number, number % 4);
            if (number % 2 == 0) {
                x.charge(number, 60);
            }
            x.letter();
        }
        return x;
    }

    private static void nothingMoreIsTaken() {
        Siegelines x = setting();
        checks.refuses("a 17th gun", Checks.STATE, x, () -> x.gun(0, 0, 1));
        checks.refuses("a 17th of the garrison", Checks.STATE, x, () -> x.gun(1, 16, 3));
        checks.refuses("a wrong 17th", Checks.ARGUMENT, x, () -> x.gun(1, 13, 1));
        checks.refuses("a 17th nowhere", Checks.INDEX, x, () -> x.gun(1, 30, 1));
        checks.refuses("a 13th company", Checks.STATE, x, () -> x.company(0, 0, 1));
        checks.refuses("a wrong 13th", Checks.ARGUMENT, x, () -> x.company(0, 0, 201));
        checks.refuses("a 13th nowhere", Checks.INDEX, x, () -> x.company(0, -1, 1));
        checks.refuses("muster", Checks.STATE, x, () -> x.muster(0));
        Siegelines y = field();
        checks.refuses("a 7th mine", Checks.STATE, y, () -> y.mine(0, 0));
        checks.refuses("a 7th of the garrison", Checks.STATE, y, () -> y.mine(1, 3));
        checks.refuses("a wrong 7th", Checks.ARGUMENT, y, () -> y.mine(1, 4));
        checks.refuses("a 7th of no company", Checks.INDEX, y, () -> y.mine(12, 0));
        checks.refuses("a 7th letter", Checks.STATE, y, () -> y.letter());
        checks.due("twelve begin", 12, setting().begin());
    }

    private static void numbersUpToTheLast() {
        Siegelines x = field();
        checks.due("gun 15", 1, x.ofGun(15, 0));
        checks.refuses("gun 16", Checks.INDEX, x, () -> x.ofGun(16, 0));
        checks.refuses("aim of gun 16", Checks.INDEX, x, () -> x.aim(16, 0));
        checks.refuses("target of gun 16", Checks.INDEX, x, () -> x.target(16));
        checks.refuses("haul of gun 16", Checks.INDEX, x, () -> x.haul(16, 14));
        checks.refuses("right of gun 16", Checks.INDEX, x, () -> x.right(16));
        checks.due("company 11", 1, x.ofCompany(11, 0));
        checks.refuses("company 12", Checks.INDEX, x, () -> x.ofCompany(12, 0));
        checks.refuses("order of company 12", Checks.INDEX, x, () -> x.order(12, 0, 0));
        checks.refuses("march of company 12", Checks.INDEX, x, () -> x.march(12, 0));
        checks.refuses("storm of company 12", Checks.INDEX, x, () -> x.storm(12, 0));
        checks.refuses("sap of company 12", Checks.INDEX, x, () -> x.sap(12));
        checks.due("mine 5", 1, x.ofMine(5, 0));
        checks.refuses("mine 6", Checks.INDEX, x, () -> x.ofMine(6, 0));
        checks.refuses("charge of mine 6", Checks.INDEX, x, () -> x.charge(6, 1));
        checks.refuses("blow mine 6", Checks.INDEX, x, () -> x.blow(6));
        checks.due("guns", 16, x.ofSide(0, 12) + x.ofSide(1, 12));
        checks.due("companies", 12, x.ofSide(0, 6) + x.ofSide(1, 6));
        checks.due("men", 2400, x.ofSide(0, 5) + x.ofSide(1, 5));
        checks.due("mines", 6, x.ofSiege(12));
        checks.due("the last gun's aim", -1, x.aim(15, 13));
        checks.due("the last company's order", 0, x.order(11, 3, 0));
    }

    /** Eight guns a side, each at the other's square: SHOTS, POWDER and HEAT of all; 13 is lost at 3 far, both ways. */
    private static void allGunsFire() {
        Siegelines x = field();
        for (int gun = 0; gun < 16; gun++) {
            x.aim(gun, gun % 2 == 0 ? 28 : 1);
        }
        int[] powder = new int[2];
        for (int gun = 0; gun < 16; gun++) {
            checks.due("shots of gun " + gun, 4, x.ofGun(gun, 7));
            powder[gun % 2] += 4 * (1 + gun % 3);
        }
        x.pass(1);
        for (int side = 0; side <= 1; side++) {
            checks.due("shots", 32, x.ofSide(side, 7));
            checks.due("powder spent", powder[side], x.ofSide(side, 8));
        }
        for (int gun = 0; gun < 16; gun++) {
            checks.due("heat of gun " + gun, 1, x.ofGun(gun, 3));
        }
        checks.holds("sound", x.isSound());
    }

    /** Guns by numbers: at 10 HITS one can not FIRE; 0, 2 and 4 dismount all of the garrison but 1 and 3, that fired. */
    private static void allGunsAtOneSquare() {
        Siegelines x = field();
        for (int gun = 0; gun < 16; gun++) {
            x.aim(gun, gun % 2 == 0 ? 16 : 13);
        }
        x.pass(1);
        // 0, 1, 2, 3, 4 fire; with 4 the garrison's guns have 12 hits, the besiegers' 8.
        for (int gun = 0; gun < 16; gun++) {
            boolean isGarrison = gun % 2 == 1;
            checks.due("state of gun " + gun, isGarrison ? 1 : 0, x.ofGun(gun, 5));
            checks.due("heat of gun " + gun, !isGarrison || gun <= 3 ? 1 : 0, x.ofGun(gun, 3));
            checks.due("hits of gun " + gun, isGarrison ? 32 : 8, x.ofGun(gun, 4));
        }
        checks.due("shots of the garrison", 8, x.ofSide(1, 7));
        checks.due("shots of the besiegers", 32, x.ofSide(0, 7));
        checks.due("ready guns", 8, x.ofSide(0, 12) + x.ofSide(1, 12));
    }

    private static void allCompaniesAct() {
        Siegelines x = field();
        for (int company = 0; company < 12; company++) {
            x.order(company, 3, 0);
        }
        x.pass(1);
        for (int company = 0; company < 12; company++) {
            checks.due("tired of company " + company, 1, x.ofCompany(company, 3));
        }
        checks.due("gabions of six in the town", 999 + 60, x.ofSide(1, 2));
        checks.due("none in a trench", 999, x.ofSide(0, 2));
        for (int company = 0; company < 12; company += 2) {
            x.order(company, 1, 14);
        }
        x.pass(1);
        checks.due("one of six is in the new trench", 200, x.ofSquare(14, 8));
        checks.due("five are not", 1000, x.ofSquare(13, 8));
        checks.due("toil is gone", 0, x.ofSquare(14, 4));
        checks.due("the first by whom it was enough is there", 14, x.ofCompany(0, 1));
    }

    /** 1 against 11 there: FORCE of all together; each loses its part. */
    private static void allCompaniesFight() {
        for (int side = 0; side <= 1; side++) {
            Siegelines x = Fields.plain(5, 5);
            x.stores(0, 0, 999, 0, 100);
            x.stores(1, 0, 999, 0, 100);
            x.company(side, 11, 200);
            for (int company = 1; company < 12; company++) {
                x.company(1 - side, 12, 200);
            }
            x.begin();
            x.order(11, 2, 0);
            checks.due("11 that are guarded", 420000 * 5 / 4 - 11 * 420000 * 3 / 2, x.storm(0, 12));
            x.order(0, 5, 12);
            x.pass(1);
            checks.due("lost a quarter", 150, x.ofCompany(0, 2));
            for (int company = 1; company < 12; company++) {
                checks.due("lost an eighth", 175, x.ofCompany(company, 2));
            }
            checks.due("losses", 275, x.ofSide(1 - side, 9));
            checks.due("one fight", 1, x.ofSide(1 - side, 10));
        }
        Siegelines few = Fields.plain(5, 5);
        few.company(0, 11, 200);
        for (int company = 1; company < 12; company++) {
            few.company(1, 12, 8);
        }
        few.begin();
        few.order(0, 5, 12);
        few.pass(1);
        for (int company = 1; company < 12; company++) {
            checks.due("half of 6", 3, few.ofCompany(company, 2));
            checks.due("on gate", 24, few.ofCompany(company, 1));
        }
    }

    private static void allMinesGoOn() {
        Siegelines x = field();
        x.pass(3);
        for (int mine = 0; mine < 6; mine++) {
            checks.due("toil of mine " + mine, 3, x.ofMine(mine, 5));
        }
        x.pass(1);
        int[] heads = {7, 17, 19, 15, 7, 17};
        for (int mine = 0; mine < 6; mine++) {
            checks.due("head of mine " + mine, heads[mine], x.ofMine(mine, 2));
            checks.due("squares of mine " + mine, 2, x.ofMine(mine, 7));
        }
    }

    private static void allMinesAreBlown() {
        Siegelines x = field();
        for (int mine = 1; mine < 6; mine += 2) {
            x.charge(mine, 4);
        }
        for (int mine = 0; mine < 6; mine++) {
            x.blow(mine);
            checks.due("blown " + mine, 2, x.ofMine(mine, 6));
        }
        checks.due("mines ever", 6, x.ofSiege(12));
        checks.due("spent by the besiegers", 180, x.ofSide(0, 8));
        checks.due("spent by the garrison", 12, x.ofSide(1, 8));
        checks.refuses("no 7th all the same", Checks.STATE, x, () -> x.mine(1, 0));
        checks.holds("sound", x.isSound());
    }

    private static void allLettersAreThrough() {
        Siegelines x = field();
        x.pass(24);
        checks.due("six", 6, x.ofSiege(7));
        checks.due("40 less 5", 35, x.ofSiege(8));
        checks.refuses("no 7th the next night", Checks.STATE, x, () -> x.letter());
        Siegelines y = field();
        for (int company = 0; company < 12; company++) {
            y.order(company, 2, 0);
        }
        for (int day = 0; day < 5; day++) {
            y.pass(24);
        }
        checks.due("six guards catch six", 0, y.ofSiege(7));
        checks.refuses("no 7th in their place", Checks.STATE, y, () -> y.letter());
    }

    /** A forecast of the full field is what comes. */
    private static void allAtOnce() {
        Siegelines x = field();
        for (int gun = 0; gun < 16; gun++) {
            x.aim(gun, gun % 2 == 0 ? 16 : 13);
        }
        for (int company = 0; company < 12; company++) {
            x.order(company, company % 2 == 0 ? 1 + company % 3 : 2 + company % 2, 14);
        }
        for (int day = 0; day < 4 && x.ofSiege(1) == 1; day++) {
            int besiegers = x.forecast(24, 2);
            int garrison = x.forecast(24, 3);
            int falls = x.forecast(24, 4);
            x.pass(24);
            checks.due("besiegers of day " + day, x.ofSide(0, 5), besiegers);
            checks.due("garrison of day " + day, x.ofSide(1, 5), garrison);
            checks.due("falls of day " + day, x.ofSiege(4), falls);
            checks.holds("sound on day " + day, x.isSound());
        }
    }

    /** Stores at their bounds go on beyond them: SUPPLY above 9999, GABIONS above 999. */
    private static void fullStores() {
        Siegelines x = setting();
        x.begin();
        x.pass(24);
        checks.due("powder", 10199, x.ofSide(0, 0));
        checks.due("9999 less 120 and 200", 10079, x.ofSide(0, 1));
        checks.due("9999 less 120 less 100", 9779, x.ofSide(1, 1));
        checks.due("people", 2000, x.ofSiege(5));
        checks.holds("sound", x.isSound());
    }
}

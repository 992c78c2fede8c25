/** Part 8 and promises 35 to 37: the order of an hour, forecasts, soundness and the digest. */
final class JournalTest {
    private static final Checks checks = new Checks("JournalTest");

    public static void main(String[] args) {
        hourInOrder();
        minesBehindCompanies();
        minesAheadOfMidnight();
        forecastTells();
        forecastOver();
        forecastOfGuns();
        forecastOfGunSetRight();
        forecastOfHeat();
        forecastOfGround();
        forecastOfStorm();
        forecastOfLetters();
        forecastOfRelief();
        forecastOfSick();
        forecastChangesNothing();
        forecastWrong();
        sound();
        digests();
        sameCallsSameAnswers();
        twoObjects();
        checks.end();
    }

    /** Guns fire ahead of the companies, and these act by numbers. */
    private static void hourInOrder() {
        Siegelines x = Fields.plain(5, 5);
        x.stores(0, 99, 99, 9, 60);
        x.gun(0, 0, 1);
        x.company(1, 3, 100);
        x.company(0, 20, 100);
        x.company(1, 24, 9);
        x.begin();
        x.aim(0, 3);
        x.order(0, 4, 4);
        x.pass(1);
        checks.due("hit ahead of its march", 88, x.ofCompany(0, 2));
        checks.due("then it went", 4, x.ofCompany(0, 1));
        Siegelines y = Fields.plain(5, 5);
        y.company(0, 6, 100);
        y.company(0, 11, 100);
        y.company(1, 12, 9);
        y.company(1, 24, 9);
        y.begin();
        y.order(0, 4, 12);
        y.order(1, 5, 12);
        y.pass(1);
        checks.due("the first does not go where the second storms", 6, y.ofCompany(0, 1));
        checks.due("the second storms", 12, y.ofCompany(1, 1));
        y.pass(1);
        checks.due("now the first goes", 7, y.ofCompany(0, 1));
    }

    private static void minesBehindCompanies() {
        Siegelines x = Fields.plain(5, 5);
        x.ground(1, 0, 0, 5, 0);
        x.stores(0, 99, 99, 9, 60);
        x.stores(1, 99, 99, 9, 60);
        x.company(0, 1, 50);
        x.company(1, 24, 9);
        x.begin();
        x.mine(0, 1);
        x.order(0, 4, 0);
        x.pass(1);
        checks.due("it left its mouth ahead of the mines", 0, x.ofMine(0, 5));
        x.order(0, 4, 1);
        x.pass(20);
        x.order(0, 3, 0);
        x.pass(3);
        checks.due("hours on the mouth: 4 and 4 and 4 and 4, stopped", 1, x.ofMine(0, 6));
        checks.due("its squares", 4, x.ofMine(0, 7));
        checks.due("midnight is behind the acts", 50, x.ofCompany(0, 2) + x.ofSide(0, 11));
    }

    /** What comes ahead of midnight has come when the siege is over by it. */
    private static void minesAheadOfMidnight() {
        Siegelines x = Fields.plain(5, 5);
        x.ground(1, 0, 0, 5, 0);
        x.stores(0, 0, 0, 9, 6);
        x.stores(1, 99, 99, 9, 60);
        x.company(0, 1, 10);
        x.company(1, 24, 9);
        x.begin();
        x.pass(22);
        x.mine(0, 1);
        x.pass(2);
        checks.due("lifted at midnight", 2, x.ofSiege(1));
        checks.due("the clock stays", 23, x.ofSiege(0));
        checks.due("the mine had both hours", 2, x.ofMine(0, 5));
    }

    private static Siegelines mustered(int seed) {
        Siegelines x = new Siegelines();
        x.lay(12, 12, seed);
        x.muster(seed);
        x.begin();
        x.order(0, 4, 41);
        x.order(1, 4, 38);
        x.order(2, 1, 1);
        x.order(3, 3, 0);
        x.order(4, 4, 66);
        x.order(5, 2, 0);
        for (int gun = 0; gun < 3; gun++) {
            x.aim(gun, 52 + gun);
        }
        return x;
    }

    private static void forecastTells() {
        for (int seed = 0; seed < 100; seed += 7) {
            for (int hours = 1; hours <= 48; hours += 47) {
                Siegelines x = mustered(seed);
                long before = x.digest();
                int over = x.forecast(hours, 0);
                int honours = x.forecast(hours, 1);
                int besiegers = x.forecast(hours, 2);
                int garrison = x.forecast(hours, 3);
                int falls = x.forecast(hours, 4);
                checks.due("a forecast changes nothing", before, x.digest());
                x.pass(hours);
                checks.due("the clock when it is over", x.ofSiege(1) == 2 ? x.ofSiege(0) : -1, over);
                checks.due("honours then", x.ofSiege(2), honours);
                checks.due("men of the besiegers", x.ofSide(0, 5), besiegers);
                checks.due("men of the garrison", x.ofSide(1, 5), garrison);
                checks.due("falls", x.ofSiege(4), falls);
            }
        }
    }

    private static void forecastOver() {
        Siegelines x = Fields.plain(5, 5);
        x.ground(12, 0, 0, 1, 5);
        x.stores(0, 99, 999, 9, 60);
        x.gun(0, 11, 1);
        x.company(0, 22, 100);
        x.company(1, 24, 10);
        x.begin();
        x.aim(0, 12);
        x.order(0, 4, 23);
        x.pass(1);
        x.order(0, 5, 24);
        checks.due("a fall by the second hour of fire", 1, x.forecast(1, 4));
        checks.due("over at once", 1, x.forecast(1, 0));
        checks.due("honours", 0, x.forecast(48, 1));
        checks.due("men of the besiegers: 100 less 12", 88, x.forecast(1, 2));
        checks.due("men of the garrison: 10 less 2 less 4", 4, x.forecast(1, 3));
        checks.due("nothing is changed", 1, x.ofSiege(1));
        Siegelines lifted = Fields.plain(5, 5);
        lifted.stores(0, 0, 0, 0, 6);
        lifted.stores(1, 0, 99, 0, 60);
        lifted.company(0, 0, 10);
        lifted.company(1, 24, 10);
        lifted.begin();
        checks.due("not over in 23 hours", -1, lifted.forecast(23, 0));
        checks.due("no honours", -1, lifted.forecast(23, 1));
        checks.due("lifted in the 24th", 23, lifted.forecast(24, 0));
        checks.due("without honours", -1, lifted.forecast(24, 1));
    }

    /** All that a forecast tells is what comes, if nothing is told in between. */
    private static void foretells(String name, Siegelines x, int hours) {
        int[] told = new int[5];
        for (int what = 0; what < 5; what++) {
            told[what] = x.forecast(hours, what);
        }
        x.pass(hours);
        boolean isOver = x.ofSiege(1) == 2;
        int[] come = {isOver ? x.ofSiege(0) : -1, isOver ? x.ofSiege(2) : -1, x.ofSide(0, 5), x.ofSide(1, 5), x.ofSiege(4)};
        for (int what = 0; what < 5; what++) {
            checks.due(name + ", forecast of " + what, come[what], told[what]);
        }
    }

    /** A gun of the garrison with 9 hits has no shot more, as one comes ahead of it; nor has it when it is dismounted. */
    private static void forecastOfGuns() {
        for (int hours = 3; hours <= 4; hours++) {
            Siegelines x = Fields.plain(9, 5);
            x.stores(0, 99, 999, 9, 60);
            x.stores(1, 99, 999, 9, 60);
            x.gun(0, 9, 1);
            x.gun(1, 12, 1);
            x.company(0, 0, 200);
            x.company(1, 44, 9);
            x.begin();
            x.aim(0, 12);
            x.pass(hours);
            checks.due("hits", hours == 3 ? 9 : 10, x.ofGun(1, 4));
            x.aim(1, 0);
            checks.due("no men will be lost", 200, x.forecast(1, 2));
            foretells("a gun with hits", x, 1);
        }
    }

    /** A gun that is dismounted has no shot, though nobody fires at it any more; set right, it has four. */
    private static void forecastOfGunSetRight() {
        Siegelines x = Fields.plain(9, 5);
        x.stores(0, 99, 999, 9, 60);
        x.stores(1, 99, 999, 9, 60);
        x.gun(0, 9, 1);
        x.gun(1, 12, 1);
        x.company(0, 0, 200);
        x.company(1, 12, 100);
        x.begin();
        x.aim(0, 12);
        x.pass(4);
        x.aim(0, -1);
        x.aim(1, 0);
        checks.due("it is dismounted", 1, x.ofGun(1, 5));
        checks.due("no men will be lost by it", 200, x.forecast(1, 2));
        x.right(1);
        checks.due("four shots will come", 188, x.forecast(1, 2));
        foretells("a gun that was set right", x, 1);
    }

    private static void forecastOfHeat() {
        Siegelines x = Fields.plain(9, 5);
        x.stores(0, 99, 999, 9, 60);
        x.gun(0, 9, 1);
        x.company(0, 0, 9);
        x.company(1, 12, 200);
        x.begin();
        x.aim(0, 20);
        x.pass(3);
        x.aim(0, 12);
        checks.due("one shot by a heat of 3", 197, x.forecast(1, 3));
        foretells("a hot gun", x, 1);
    }

    /** A company that digs at 1, seen by a gun: with toil and a gabion it leaves its square under fire. Then heights. */
    private static void forecastOfGround() {
        int[] gabions = {0, 1};
        for (int had : gabions) {
            Siegelines x = Fields.plain(9, 5);
            x.stores(0, 0, 999, had, 60);
            x.stores(1, 999, 999, 0, 60);
            x.gun(1, 3, 1);
            x.company(0, 0, 190);
            x.company(1, 44, 9);
            x.begin();
            x.order(0, 1, 1);
            x.pass(1);
            checks.due("toil", 19, x.ofSquare(1, 4));
            x.order(0, 0, 0);
            x.pass(1);
            x.order(0, 1, 1);
            x.aim(0, 0);
            checks.due("men that will be hit: 12 and 9, or 12 alone", had == 0 ? 169 : 178, x.forecast(2, 2));
            foretells("toil and gabions", x, 2);
        }
        Siegelines hidden = Fields.plain(9, 5);
        hidden.camp(20, 44);
        hidden.ground(1, 2, 0, 0, 0);
        hidden.stores(1, 99, 999, 0, 60);
        hidden.gun(1, 2, 1);
        hidden.company(0, 0, 100);
        hidden.company(1, 44, 9);
        hidden.begin();
        hidden.aim(0, 0);
        checks.due("hidden by a height", 100, hidden.forecast(1, 2));
        foretells("heights", hidden, 1);
        Siegelines high = Fields.plain(9, 5);
        high.camp(20, 44);
        high.ground(0, 4, 0, 0, 0);
        high.ground(1, 2, 0, 0, 0);
        high.stores(1, 99, 999, 0, 60);
        high.gun(1, 0, 1);
        high.company(0, 2, 100);
        high.company(1, 44, 9);
        high.begin();
        high.aim(0, 2);
        checks.due("seen from the height of 0", 88, high.forecast(1, 2));
        foretells("the height of 0", high, 1);
    }

    private static void forecastOfStorm() {
        Siegelines x = Fields.plain(5, 5);
        x.company(0, 11, 100);
        x.company(1, 12, 50);
        x.company(1, 24, 9);
        x.begin();
        x.order(0, 3, 0);
        x.pass(9);
        x.order(0, 5, 12);
        checks.due("tired of 9 it will lose a quarter", 75, x.forecast(1, 2));
        foretells("a storm of tired ones", x, 1);
        Siegelines y = Fields.plain(5, 5);
        y.stores(1, 99, 99, 0, 60);
        y.gun(1, 3, 1);
        y.company(0, 11, 49);
        y.company(1, 12, 200);
        y.begin();
        y.aim(0, 0);
        y.order(1, 5, 11);
        checks.due("19 flee to camp", 19, y.forecast(1, 2));
        checks.due("there 9 are lost", 10, y.forecast(2, 2));
        foretells("losers on camp", y, 2);
    }

    /** Besiegers with so much morale, one of them at guard or none, and a letter that is sent at once. */
    private static Siegelines lettered(int morale, int days, boolean isGuarded) {
        Siegelines x = Fields.plain(5, 5);
        x.stores(0, 0, 999, 0, morale);
        x.stores(1, 0, 999, 0, 60);
        x.town(0, 0, days);
        x.company(0, 0, 49);
        x.company(1, 24, 49);
        x.begin();
        x.order(0, isGuarded ? 2 : 0, 0);
        x.letter();
        return x;
    }

    private static void forecastOfLetters() {
        Siegelines x = lettered(15, 1, false);
        checks.due("the relief comes with the second midnight", 47, x.forecast(48, 0));
        checks.due("not ahead of it", -1, x.forecast(47, 0));
        foretells("a letter that is out", x, 48);
        Siegelines y = lettered(15, 2, false);
        y.pass(24);
        checks.due("two days on", 71, y.forecast(48, 0));
        checks.due("lifted", -1, y.forecast(48, 1));
        foretells("the relief on its way", y, 48);
        Siegelines z = lettered(15, 1, true);
        z.pass(24);
        checks.due("through with its second midnight", 71, z.forecast(48, 0));
        foretells("a letter that has a day", z, 48);
    }

    private static void forecastOfRelief() {
        Siegelines x = lettered(30, 1, false);
        x.pass(48);
        checks.due("there", 1, x.ofSiege(9));
        checks.due("it does not come twice", -1, x.forecast(24, 0));
        foretells("the relief there", x, 24);
        Siegelines y = Fields.plain(5, 5);
        y.stores(1, 0, 999, 0, 60);
        y.town(0, 50, 9);
        y.company(0, 0, 200);
        y.company(1, 24, 49);
        y.begin();
        checks.due("8 are sick hungry, then 3, fed by supply", 189, y.forecast(48, 2));
        foretells("supply", y, 48);
    }

    private static void forecastOfSick() {
        Siegelines x = Fields.plain(5, 5);
        x.ground(4, 0, 0, 3, 0);
        x.stores(0, 999, 999, 9, 60);
        x.stores(1, 999, 999, 9, 60);
        x.gun(0, 0, 3);
        x.company(0, 0, 150);
        x.company(1, 24, 150);
        x.begin();
        x.pass(9);
        x.aim(0, 4);
        x.pass(14);
        checks.due("fires ahead of midnight", 20, x.ofSiege(6));
        checks.due("one more makes more sick", 144, x.forecast(1, 3));
        foretells("fires", x, 1);
    }

    private static void forecastChangesNothing() {
        Siegelines asked = mustered(5);
        Siegelines left = mustered(5);
        for (int day = 0; day < 6; day++) {
            for (int what = 0; what < 5; what++) {
                asked.forecast(48, what);
            }
            asked.march(0, 100);
            asked.sap(1);
            asked.target(0);
            asked.storm(0, 1);
            asked.pass(17);
            left.pass(17);
            checks.due("as without a forecast, day " + day, left.digest(), asked.digest());
        }
    }

    private static void forecastWrong() {
        Siegelines x = mustered(3);
        int[][] wrong = {{0, 0}, {49, 0}, {-1, 0}, {1, -1}, {1, 5}, {Integer.MAX_VALUE, 0}};
        for (int[] w : wrong) {
            checks.refuses("forecast(" + w[0] + ", " + w[1] + ")", Checks.ARGUMENT, x,
                () -> x.forecast(w[0], w[1]));
        }
        Siegelines y = Fields.plain(5, 5);
        checks.refuses("a forecast ahead of the siege", Checks.STATE, y, () -> y.forecast(1, 0));
        checks.refuses("a wrong one ahead of the siege", Checks.ARGUMENT, y, () -> y.forecast(0, 0));
    }

    private static void sound() {
        Siegelines x = mustered(11);
        checks.holds("as it begins", x.isSound());
        for (int day = 0; day < 12; day++) {
            x.pass(24);
            checks.holds("day " + day, x.isSound());
        }
        Siegelines y = Fields.plain(5, 5);
        y.ground(12, 0, 0, 1, 1);
        y.stores(0, 7, 0, 0, 1);
        y.stores(1, 5, 0, 0, 1);
        checks.holds("in the setting", y.isSound());
        y.company(0, 0, 200);
        y.company(1, 24, 1);
        checks.holds("with companies", y.isSound());
        y.begin();
        checks.holds("as it begins with powder", y.isSound());
    }

    /** The digest as the document tells it, from what is asked. */
    private static long digestOf(Siegelines x, int squares, int guns, int companies, int mines) {
        long d = 58263;
        for (int what = 0; what <= 12; what++) {
            d = d * 31 + x.ofSiege(what);
        }
        for (int side = 0; side < 2; side++) {
            for (int what = 0; what <= 12; what++) {
                d = d * 31 + x.ofSide(side, what);
            }
        }
        for (int square = 0; square < squares; square++) {
            for (int what = 2; what <= 5; what++) {
                d = d * 31 + x.ofSquare(square, what);
            }
        }
        for (int gun = 0; gun < guns; gun++) {
            for (int what = 1; what <= 7; what++) {
                d = what == 2 ? d : d * 31 + x.ofGun(gun, what);
            }
        }
        for (int company = 0; company < companies; company++) {
            for (int what = 1; what <= 6; what++) {
                d = d * 31 + x.ofCompany(company, what);
            }
        }
        for (int mine = 0; mine < mines; mine++) {
            for (int what = 2; what <= 8; what++) {
                d = what == 3 ? d : d * 31 + x.ofMine(mine, what);
            }
        }
        return d * 31 + (x.isSound() ? 1 : 0);
    }

    private static void digests() {
        checks.due("a new object", digestOf(new Siegelines(), 0, 0, 0, 0), new Siegelines().digest());
        for (int tens = 0; tens <= 6; tens++) {
            Siegelines x = new Siegelines();
            x.lay(9, 9, 17);
            x.muster(17);
            x.begin();
            x.order(0, 1, 1);
            x.aim(0, 40);
            for (int ten = 0; ten < tens; ten++) {
                x.pass(10);
            }
            checks.due("digest after tens of hours: " + tens, digestOf(x, 81, 6, 8, 0), x.digest());
        }
        Siegelines y = Fields.plain(5, 6);
        y.ground(1, 0, 0, 5, 0);
        y.stores(0, 99, 99, 9, 60);
        y.company(0, 1, 9);
        y.company(1, 29, 9);
        y.begin();
        y.mine(0, 1);
        y.mine(0, 2);
        y.charge(1, 9);
        y.pass(5);
        checks.due("with mines", digestOf(y, 30, 0, 2, 2), y.digest());
        Siegelines z = Fields.plain(9, 5);
        z.stores(0, 99, 99, 9, 60);
        z.gun(0, 9, 2);
        z.gun(1, 12, 1);
        z.company(0, 0, 9);
        z.company(1, 12, 90);
        z.begin();
        z.aim(0, 12);
        z.pass(2);
        checks.due("hits", 7, z.ofGun(1, 4));
        checks.due("with hits", digestOf(z, 45, 2, 2, 0), z.digest());
        z.pass(2);
        checks.due("dismounted", 1, z.ofGun(1, 5));
        checks.due("with a gun that is dismounted", digestOf(z, 45, 2, 2, 0), z.digest());
    }

    private static void sameCallsSameAnswers() {
        Siegelines x = mustered(23);
        Siegelines y = mustered(23);
        for (int day = 0; day < 8; day++) {
            x.pass(13);
            y.pass(13);
            checks.due("the same calls", x.digest(), y.digest());
        }
    }

    /** What is told to one object is not told to another. */
    private static void twoObjects() {
        Siegelines x = mustered(29);
        Siegelines y = mustered(31);
        long before = y.digest();
        x.pass(48);
        x.forecast(48, 0);
        checks.due("another object", before, y.digest());
    }
}

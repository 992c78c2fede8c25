/** Part 3: the bounds of guns; promises 7, 12 to 14, 25 and 34. */
final class GunEdgesTest {
    private static final Checks checks = new Checks("GunEdgesTest");
    private static final int MORTAR = 3;
    private static final String WORK_SIGNS = ".#~Tc=/u";

    public static void main(String[] args) {
        gunAsPlaced();
        mortarsRange();
        mortarByNightOverWalls();
        othersSeeTheirAim();
        aimOfNone();
        shotsByHeatAndPowder();
        powderGoesByNumbers();
        heatCoolsToNone();
        wallsUnderShots();
        fallenWallIsLower();
        fallAndMorale();
        breachIsNotHit();
        tenHits();
        hitsOfGunsThatAreNotReady();
        gunsOfTheOtherSideAlone();
        menByWork();
        menByTheWorkAsItIsThen();
        menDownToNone();
        eachCompanyThere();
        rakedTwice();
        firesByMortars();
        notReadyDoesNotFire();
        dismountedAheadOfItsTurn();
        haulTouches();
        haulByWork();
        haulByTired();
        rightByTired();
        targetPoints();
        targetWhereItIs();
        targetOfNothing();
        checks.end();
    }

    private static String name(String what, int... numbers) {
        return what + " " + java.util.Arrays.toString(numbers);
    }

    /** "HEAT (0 at first), HITS (0 at first), a STATE (0 READY), an AIM (NONE at first)". */
    private static void gunAsPlaced() {
        for (int side = 0; side <= 1; side++) {
            for (int calibre = 1; calibre <= 3; calibre++) {
                Siegelines x = Fields.plain(5, 5);
                x.gun(side, 12, calibre);
                int[] want = {side, 12, calibre, 0, 0, 0, -1, 0};
                for (int what = 0; what <= 7; what++) {
                    checks.due(name("ofGun", side, calibre, what), want[what], x.ofGun(0, what));
                }
                checks.due("ready guns", 1, x.ofSide(side, 12));
                checks.due("none of the other", 0, x.ofSide(1 - side, 12));
            }
        }
    }

    private static Siegelines withGun(int square, int calibre) {
        Siegelines x = Fields.plain(12, 12);
        x.stores(0, 9999, 999, 0, 60);
        x.stores(1, 0, 999, 0, 60);
        x.gun(0, square, calibre);
        x.company(0, 0, 1);
        x.company(1, 143, 1);
        x.begin();
        return x;
    }

    /** "A MORTAR, if FAR to its AIM is 3 to 8": by columns, by rows and aslant. */
    private static void mortarsRange() {
        int[] squares = {0, 5, 66, 142};
        Terrain t = Terrain.laid(12, 12, 100);
        for (int square : squares) {
            Siegelines x = withGun(square, MORTAR);
            for (int aim = 0; aim < 144; aim++) {
                x.aim(0, aim);
                int far = t.far(square, aim);
                checks.due(name("shots of a mortar", square, aim), far >= 3 && far <= 8 ? 4 : 0, x.ofGun(0, 7));
            }
        }
    }

    private static void mortarByNightOverWalls() {
        for (int hour = 0; hour <= 5; hour += 5) {
            Siegelines x = Fields.plain(12, 5);
            x.ground(1, 9, 0, 1, 99);
            x.stores(0, 99, 99, 0, 60);
            x.gun(0, 0, MORTAR);
            x.gun(0, 0, 1);
            x.company(0, 0, 1);
            x.company(1, 59, 1);
            x.begin();
            if (hour > 0) {
                x.pass(hour);
            }
            x.aim(0, 8);
            x.aim(1, 3);
            checks.due("a mortar sees nothing and fires", 4, x.ofGun(0, 7));
            checks.due("another one does not", 0, x.ofGun(1, 7));
        }
    }

    /** "Another one, if it SEES its AIM", also where it is. */
    private static void othersSeeTheirAim() {
        for (int calibre = 1; calibre <= 2; calibre++) {
            Siegelines x = new Siegelines();
            x.lay(8, 8, 5);
            x.stores(0, 99, 999, 0, 60);
            x.gun(0, 19, calibre);
            x.company(0, 0, 1);
            x.company(1, 54, 1);
            x.begin();
            for (int hour = 0; hour <= 5; hour += 5) {
                for (int aim = 0; aim < 64; aim++) {
                    x.aim(0, aim);
                    checks.due(name("shots at", aim), x.sees(19, aim) ? 4 : 0, x.ofGun(0, 7));
                }
                x.aim(0, -1);
                x.pass(5);
            }
            x.aim(0, 19);
            checks.due("at its own square", 4, x.ofGun(0, 7));
        }
    }

    /** "NONE for none": no AIM, no SHOTS; "returns the AIM before". */
    private static void aimOfNone() {
        Siegelines x = withGun(0, 1);
        checks.due("none at first", -1, x.aim(0, -1));
        checks.due("none again", -1, x.aim(0, 3));
        checks.due("then 3", 3, x.aim(0, 143));
        checks.due("the last square", 143, x.aim(0, 0));
        checks.due("the first", 0, x.aim(0, -1));
        checks.due("no shots", 0, x.ofGun(0, 7));
        x.pass(1);
        checks.due("none were fired", 0, x.ofSide(0, 7));
    }

    /** "Its SHOTS are 4 - HEAT, but no more than POWDER of its SIDE / CALIBRE"; HEAT 1 more, 3 at most, or 1 less. */
    private static void shotsByHeatAndPowder() {
        for (int calibre = 1; calibre <= 3; calibre++) {
            for (int heat = 0; heat <= 3; heat++) {
                for (int left = 0; left <= 13; left++) {
                    int spent = (heat > 0 ? 4 : 0) + (heat > 1 ? 3 : 0) + (heat > 2 ? 2 : 0);
                    Siegelines x = Fields.plain(9, 5);
                    x.stores(0, spent * calibre + left, 99, 0, 60);
                    x.gun(0, 9, calibre);
                    x.company(0, 0, 1);
                    x.company(1, 44, 1);
                    x.begin();
                    x.aim(0, 12);
                    if (heat > 0) {
                        x.pass(heat);
                    }
                    String name = name("calibre, heat, powder", calibre, heat, left);
                    int shots = Math.min(4 - heat, left / calibre);
                    checks.due(name, heat, x.ofGun(0, 3));
                    checks.due(name + " powder", left, x.ofSide(0, 0));
                    checks.due(name + " shots", shots, x.ofGun(0, 7));
                    x.pass(1);
                    checks.due(name + " powder then", left - shots * calibre, x.ofSide(0, 0));
                    checks.due(name + " shots ever", spent + shots, x.ofSide(0, 7));
                    checks.due(name + " spent", (spent + shots) * calibre, x.ofSide(0, 8));
                    int then = shots > 0 ? Math.min(3, heat + 1) : Math.max(0, heat - 1);
                    checks.due(name + " heat then", then, x.ofGun(0, 3));
                }
            }
        }
    }

    /** GUNS FIRE by numbers: the first ones take the POWDER, of their own SIDE alone. */
    private static void powderGoesByNumbers() {
        int[][] want = {{0, 0, 0}, {1, 0, 0}, {4, 0, 0}, {4, 1, 0}, {4, 4, 0}, {4, 4, 2}, {4, 4, 4}, {4, 4, 4}};
        int[] powder = {0, 1, 4, 5, 8, 10, 12, 13};
        for (int i = 0; i < powder.length; i++) {
            for (int side = 0; side <= 1; side++) {
                Siegelines x = Fields.plain(9, 5);
                x.stores(side, powder[i], 99, 0, 60);
                x.stores(1 - side, 99, 99, 0, 60);
                x.gun(1 - side, 9, 1);
                for (int gun = 0; gun < 3; gun++) {
                    x.gun(side, 9, 1);
                }
                x.company(0, 0, 1);
                x.company(1, 44, 1);
                x.begin();
                for (int gun = 3; gun >= 0; gun--) {
                    x.aim(gun, 12);
                }
                x.pass(1);
                int shots = 0;
                for (int gun = 0; gun < 3; gun++) {
                    shots += want[i][gun];
                    checks.due(name("heat by powder", powder[i], gun), want[i][gun] > 0 ? 1 : 0, x.ofGun(gun + 1, 3));
                }
                checks.due(name("shots by powder", powder[i]), shots, x.ofSide(side, 7));
                checks.due("the other's powder", 95, x.ofSide(1 - side, 0));
            }
        }
    }

    /** "A GUN that did not FIRE in this HOUR: HEAT is 1 less, 0 at least": for want of an aim, of sight or of powder. */
    private static void heatCoolsToNone() {
        for (int why = 0; why <= 2; why++) {
            Siegelines x = Fields.plain(12, 5);
            x.stores(0, why == 2 ? 9 : 99, 99, 0, 60);
            x.gun(0, 12, 1);
            x.company(0, 0, 1);
            x.company(1, 59, 1);
            x.begin();
            x.aim(0, 15);
            x.pass(3);
            checks.due("hot", 3, x.ofGun(0, 3));
            x.aim(0, why == 0 ? -1 : why == 1 ? 22 : 15);
            int[] heat = {2, 1, 0, 0, 0};
            for (int h : heat) {
                x.pass(1);
                checks.due(name("it cools", why, h), h, x.ofGun(0, 3));
            }
        }
    }

    /** A gun of the besiegers at 9 with an aim at 12; one company of each side far off. */
    private static Siegelines battery(int calibre) {
        Siegelines x = Fields.plain(9, 5);
        x.stores(0, 999, 99, 0, 60);
        x.stores(1, 999, 99, 0, 60);
        x.gun(0, 9, calibre);
        return x;
    }

    private static void open(Siegelines x) {
        x.company(0, 0, 1);
        x.company(1, 44, 1);
        x.begin();
        x.aim(0, 12);
    }

    /** "A WALL is less FIRM by SHOTS * CALIBRE; with 0 or less it falls". */
    private static void wallsUnderShots() {
        for (int calibre = 1; calibre <= 3; calibre++) {
            int[] firms = {1, 4 * calibre - 1, 4 * calibre, 4 * calibre + 1, 99};
            for (int firm : firms) {
                Siegelines x = battery(calibre);
                x.ground(12, 2, 0, 1, firm);
                open(x);
                x.pass(1);
                boolean falls = firm <= 4 * calibre;
                String name = name("calibre, firm", calibre, firm);
                checks.due(name + " work", falls ? 6 : 1, x.ofSquare(12, 2));
                checks.due(name + " firm then", falls ? 0 : firm - 4 * calibre, x.ofSquare(12, 3));
                checks.due(name + " falls", falls ? 1 : 0, x.ofSiege(4));
                checks.due(name + " breaches", falls ? 1 : 0, x.ofSiege(10));
                checks.due(name + " morale", falls ? 52 : 60, x.ofSide(1, 3));
                checks.due(name + " belongs to", falls ? -1 : 1, x.ofSquare(12, 7));
            }
        }
    }

    /** "BREACH, HEIGHT 1 less, 0 at least". */
    private static void fallenWallIsLower() {
        for (int height = 0; height <= 9; height++) {
            Siegelines x = battery(1);
            x.ground(12, height, 3, 1, 1);
            open(x);
            x.pass(1);
            checks.due("height of a breach that was " + height, Math.max(0, height - 1), x.ofSquare(12, 0));
            checks.due("its soil", 3, x.ofSquare(12, 1));
            checks.due("its toil", 0, x.ofSquare(12, 4));
        }
    }

    /** "MORALE: 8 less for the SIDE 1 with each FALL; .. always 0 at least". */
    private static void fallAndMorale() {
        int[][] morales = {{1, 0}, {7, 0}, {8, 0}, {9, 1}, {16, 8}, {100, 92}};
        for (int[] morale : morales) {
            Siegelines x = battery(1);
            x.stores(1, 0, 99, 0, morale[0]);
            x.ground(12, 1, 0, 1, 1);
            open(x);
            x.pass(1);
            checks.due(name("morale by a fall", morale[0]), morale[1], x.ofSide(1, 3));
            checks.due("of the besiegers", 60, x.ofSide(0, 3));
            checks.due("a garrison without morale goes on", 1, x.ofSiege(1));
        }
    }

    /** What has fallen does not fall again, and what is no WALL has nothing to fall. */
    private static void breachIsNotHit() {
        for (int work = 0; work <= 7; work++) {
            if (work != 1) {
                Siegelines x = battery(2);
                x.ground(12, 2, 0, work, 1);
                open(x);
                x.pass(4);
                checks.due("work " + work + " stays", work, x.ofSquare(12, 2));
                checks.due("with its height", 2, x.ofSquare(12, 0));
                checks.due("no fall", 0, x.ofSiege(4));
                checks.due("shots all the same", 10, x.ofSide(0, 7));
            }
        }
    }

    /** "Each GUN of the other SIDE there has SHOTS more HITS; with 10 or more it is DISMOUNTED". */
    private static void tenHits() {
        int[] shots = {4, 3, 2, 1};
        Siegelines x = battery(1);
        x.gun(1, 12, 1);
        x.gun(1, 12, 3);
        x.gun(1, 13, 1);
        open(x);
        int hits = 0;
        for (int s : shots) {
            hits += s;
            x.pass(1);
            for (int gun = 1; gun <= 2; gun++) {
                checks.due("hits", hits, x.ofGun(gun, 4));
                checks.due("dismounted with 10, not with 9", hits >= 10 ? 1 : 0, x.ofGun(gun, 5));
            }
            checks.due("not beside it", 0, x.ofGun(3, 4));
            checks.due("ready guns", hits >= 10 ? 1 : 3, x.ofSide(1, 12));
        }
        checks.due("more than 10", 2, twelveHits().ofGun(1, 5) + twelveHits().ofGun(2, 5));
    }

    /** Three guns at once: 4 and 4 leave a gun ready, the third 4 does not. */
    private static Siegelines twelveHits() {
        Siegelines x = battery(1);
        x.gun(1, 12, 1);
        x.gun(1, 12, 2);
        x.gun(0, 9, 1);
        x.gun(0, 9, 1);
        open(x);
        x.aim(3, 12);
        x.aim(4, 12);
        x.pass(1);
        return x;
    }

    /** "(If it was READY)": HITS go on, a STATE of SPIKED or DISMOUNTED stays. */
    private static void hitsOfGunsThatAreNotReady() {
        Siegelines x = twelveHits();
        x.pass(1);
        checks.due("hits of one that is dismounted", 21, x.ofGun(1, 4));
        checks.due("it stays so", 1, x.ofGun(1, 5));
        Siegelines y = battery(1);
        y.gun(1, 12, 1);
        y.company(0, 3, 50);
        y.company(1, 44, 1);
        y.begin();
        y.order(0, 5, 12);
        y.pass(1);
        checks.due("spiked", 2, y.ofGun(1, 5));
        y.aim(0, 12);
        y.pass(4);
        checks.due("10 hits", 10, y.ofGun(1, 4));
        checks.due("it stays spiked", 2, y.ofGun(1, 5));
        checks.refuses("besiegers do not set it right", Checks.STATE, y, () -> y.right(1));
    }

    private static void gunsOfTheOtherSideAlone() {
        for (int side = 0; side <= 1; side++) {
            Siegelines x = Fields.plain(9, 5);
            x.stores(side, 99, 99, 0, 60);
            x.gun(side, 9, 1);
            x.gun(side, 12, 1);
            x.gun(1 - side, 12, 1);
            open(x);
            x.pass(1);
            checks.due("a gun of its own side", 0, x.ofGun(1, 4));
            checks.due("one of the other", 4, x.ofGun(2, 4));
        }
    }

    /** MEN that 4, 3, 2 and 1 SHOTS take, by the WORK: SHOTS * 3, SHOTS, SHOTS / 2. */
    private static void menByWork() {
        int[] three = {12, 9, 6, 3};
        int[] one = {4, 3, 2, 1};
        int[] half = {2, 1, 1, 0};
        for (int work = 0; work <= 7; work++) {
            boolean isWork = work == 1 || work == 3 || work == 4;
            for (int calibre = 1; calibre <= 3; calibre++) {
                int side = work == 5 ? 1 : 0;
                Siegelines x = Fields.plain(9, 5);
                x.ground(9, 5, 0, 0, 0);
                x.ground(12, 0, 0, work, 99);
                x.stores(side, 999, 99, 0, 60);
                x.gun(side, 9, calibre);
                x.company(1 - side, 12, 200);
                x.company(side, 20, 200);
                x.begin();
                x.aim(0, 12);
                int men = 200;
                for (int hour = 0; hour < 4; hour++) {
                    men -= work == 5 || isWork && calibre == MORTAR ? one[hour] : isWork ? half[hour] : three[hour];
                    x.pass(1);
                    checks.due(name("men on work '" + WORK_SIGNS.charAt(work) + "' by", calibre, hour), men,
                            x.ofCompany(0, 2));
                }
                checks.due("losses", 200 - men, x.ofSide(1 - side, 9));
                checks.due("none of its own", 0, x.ofSide(side, 9));
            }
        }
    }

    /** "(By the WORK as it is then)": a WALL that falls by these SHOTS is a BREACH for those upon it. */
    private static void menByTheWorkAsItIsThen() {
        for (int firm = 4; firm <= 5; firm++) {
            Siegelines x = battery(1);
            x.ground(12, 1, 0, 1, firm);
            x.company(1, 12, 100);
            open(x);
            x.pass(1);
            checks.due("men on a wall that was firm " + firm, firm == 4 ? 88 : 98, x.ofCompany(0, 2));
        }
    }

    /** "With 0 it is GONE": no more MEN are lost than there are. */
    private static void menDownToNone() {
        int[] men = {1, 11, 12, 13, 24, 25};
        for (int m : men) {
            Siegelines x = battery(1);
            x.company(1, 12, m);
            open(x);
            x.pass(1);
            checks.due("men of " + m, Math.max(0, m - 12), x.ofCompany(0, 2));
            checks.due("losses of " + m, Math.min(12, m), x.ofSide(1, 9));
            checks.due("companies that are left", m <= 12 ? 1 : 2, x.ofSide(1, 6));
            checks.due("a sign of them", m <= 12 ? '.' : 'x', x.row(1).charAt(3));
            checks.due("men there", Math.max(0, m - 12), x.ofSquare(12, 9));
        }
    }

    /** "Each COMPANY of the other SIDE there, by numbers, loses MEN": all lose as much, not one for the others. */
    private static void eachCompanyThere() {
        Siegelines x = battery(1);
        int[] men = {100, 5, 12, 200};
        for (int m : men) {
            x.company(1, 12, m);
        }
        x.company(0, 12, 100);
        x.company(1, 13, 100);
        open(x);
        x.pass(1);
        int[] left = {88, 0, 0, 188, 100, 100};
        for (int company = 0; company < 6; company++) {
            checks.due("left of company " + company, left[company], x.ofCompany(company, 2));
        }
        checks.due("losses", 41, x.ofSide(1, 9));
    }

    /** "SHOTS * 2, if it is RAKED from the GUN's SQUARE, and the GUN is no MORTAR", by each of 4 to 1 SHOTS. */
    private static void rakedTwice() {
        for (int calibre = 1; calibre <= 3; calibre++) {
            for (int behind = 13; behind <= 14; behind++) {
                Siegelines x = Fields.plain(9, 5);
                x.ground(9, 5, 0, 0, 0);
                x.ground(12, 0, 0, 5, 0);
                x.ground(behind, 0, 0, 5, 0);
                x.stores(1, 999, 99, 0, 60);
                x.gun(1, 9, calibre);
                x.company(0, 12, 200);
                x.company(1, 44, 1);
                x.begin();
                x.aim(0, 12);
                int times = behind == 13 && calibre != MORTAR ? 2 : 1;
                int[] shots = {4, 7, 9, 10, 11};
                for (int s : shots) {
                    x.pass(1);
                    checks.due(name("men in a trench by", calibre, behind, s), 200 - times * s, x.ofCompany(0, 2));
                }
            }
        }
    }

    /** "By a MORTAR a TOWN has FIRES: SHOTS more", with nobody there, too; not by others, nor on other works. */
    private static void firesByMortars() {
        int[] shots = {4, 7, 9, 10, 11};
        for (int calibre = 1; calibre <= 3; calibre++) {
            for (int work = 0; work <= 7; work++) {
                Siegelines x = battery(calibre);
                x.ground(12, 0, 0, work, 99);
                open(x);
                for (int s : shots) {
                    x.pass(1);
                    checks.due(name("fires by calibre, work", calibre, work), calibre == MORTAR && work == 3 ? s : 0,
                            x.ofSiege(6));
                }
            }
        }
    }

    /** "Each GUN that is READY": one that is not does not FIRE, and cools. */
    private static void notReadyDoesNotFire() {
        Siegelines x = twelveHits();
        x.aim(1, 9);
        checks.due("no shots", 0, x.ofGun(1, 7));
        x.pass(1);
        checks.due("none were fired", 0, x.ofSide(1, 7));
        checks.due("no heat", 0, x.ofGun(1, 3));
        checks.due("no target", -1, x.target(1));
    }

    /** By numbers: a gun that a smaller number dismounts does not FIRE in that HOUR; a greater number is too late. */
    private static void dismountedAheadOfItsTurn() {
        for (int first = 0; first <= 1; first++) {
            Siegelines x = Fields.plain(9, 5);
            x.stores(0, 99, 99, 0, 60);
            x.stores(1, 99, 99, 0, 60);
            for (int gun = 0; gun < 4; gun++) {
                boolean isGarrison = gun == (first == 0 ? 0 : 3);
                x.gun(isGarrison ? 1 : 0, isGarrison ? 12 : 9, 1);
            }
            x.company(0, 0, 1);
            x.company(1, 44, 1);
            x.begin();
            int lone = first == 0 ? 0 : 3;
            for (int gun = 0; gun < 4; gun++) {
                x.aim(gun, gun == lone ? 9 : 12);
            }
            x.pass(1);
            checks.due("dismounted", 1, x.ofGun(lone, 5));
            checks.due("shots ahead of that", first == 0 ? 4 : 0, x.ofSide(1, 7));
            checks.due("heat", first == 0 ? 1 : 0, x.ofGun(lone, 3));
        }
    }

    /** A gun on a square of 5 by 5 and a fresh company on each square round it and on that one. */
    private static Siegelines crews(int gunSquare, int... squares) {
        Siegelines x = Fields.plain(5, 5);
        x.gun(0, gunSquare, 1);
        for (int square : squares) {
            x.company(0, square, 10);
        }
        x.company(1, 24, 1);
        x.begin();
        return x;
    }

    /** "To a SQUARE that TOUCHES its own one": not its own, not aslant, not over a row's end. */
    private static void haulTouches() {
        int[] squares = {12, 7, 11, 13, 17, 6, 8, 16, 18, 2};
        for (int to : squares) {
            Siegelines x = crews(12, squares);
            boolean touches = to == 7 || to == 11 || to == 13 || to == 17;
            if (touches) {
                checks.due("hauled to " + to, 2, x.haul(0, to));
                checks.due("it is there", to, x.ofGun(0, 1));
            } else {
                checks.refuses("hauled to " + to, Checks.STATE, x, () -> x.haul(0, to));
            }
        }
        Siegelines end = crews(4, 5, 3, 9);
        checks.refuses("over the row's end", Checks.STATE, end, () -> end.haul(0, 5));
        Siegelines begin = crews(5, 4, 0, 6);
        checks.refuses("over the row's begin", Checks.STATE, begin, () -> begin.haul(0, 4));
    }

    /** "Or the SQUARE is a DITCH, BREACH or CRATER"; on all others it is let. */
    private static void haulByWork() {
        for (int work = 0; work <= 7; work++) {
            for (int side = 0; side <= 1; side++) {
                boolean isOwn = side == 0 ? work != 1 && work != 3 && work != 4 : work != 5;
                if (!isOwn) {
                    continue;
                }
                int told = work;
                Siegelines x = Fields.plain(5, 5);
                x.ground(13, 0, 0, work, 9);
                x.gun(side, 12, 1);
                x.company(side, 13, 10);
                x.company(1 - side, 2, 10);
                x.begin();
                if (work == 2 || work == 6 || work == 7) {
                    checks.refuses("hauled to work " + told, Checks.STATE, x, () -> x.haul(0, 13));
                } else {
                    checks.due("hauled to work " + told, 2, x.haul(0, 13));
                }
            }
        }
    }

    /** "That is TIRED of less than 8 (of several that with the smallest number): that is 2 more TIRED". */
    private static void haulByTired() {
        for (int tired = 0; tired <= 10; tired++) {
            Siegelines x = crews(12, 13, 13);
            if (tired > 0) {
                x.order(0, 3, 0);
                x.pass(tired);
            }
            checks.due("tired", tired, x.ofCompany(0, 3));
            checks.due("hauled by the first that is fresh", tired < 8 ? tired + 2 : 2, x.haul(0, 13));
            checks.due("the first", tired < 8 ? tired + 2 : tired, x.ofCompany(0, 3));
            checks.due("the second", tired < 8 ? 0 : 2, x.ofCompany(1, 3));
            Siegelines alone = crews(12, 13);
            if (tired > 0) {
                alone.order(0, 3, 0);
                alone.pass(tired);
            }
            if (tired < 8) {
                checks.due("by it alone", tired + 2, alone.haul(0, 13));
            } else {
                checks.refuses("by nobody", Checks.STATE, alone, () -> alone.haul(0, 13));
            }
        }
        Siegelines gone = Fields.plain(5, 5);
        gone.gun(0, 12, 1);
        gone.company(0, 13, 1);
        gone.company(1, 14, 200);
        gone.company(0, 0, 1);
        gone.begin();
        gone.order(0, 5, 14);
        gone.pass(1);
        checks.due("one that is gone", 0, gone.ofCompany(0, 2));
        checks.refuses("does not haul", Checks.STATE, gone, () -> gone.haul(0, 13));
    }

    /** "TIRED of less than 8 (likewise): that is 4 more TIRED; the GUN is READY, with HITS and HEAT of 0". */
    private static void rightByTired() {
        for (int tired = 1; tired <= 10; tired++) {
            Siegelines x = battery(1);
            x.gun(1, 12, 1);
            x.gun(0, 9, 1);
            x.gun(0, 9, 1);
            x.company(1, 12, 200);
            x.company(1, 12, 200);
            x.company(0, 0, 1);
            x.begin();
            x.order(0, 3, 0);
            if (tired > 1) {
                x.pass(tired - 1);
            }
            x.aim(0, 12);
            x.aim(2, 12);
            x.aim(3, 12);
            x.aim(1, 20);
            x.pass(1);
            checks.due("dismounted", 1, x.ofGun(1, 5));
            checks.due("tired", tired, x.ofCompany(0, 3));
            checks.due("set right by the first that is fresh", tired < 8 ? tired + 4 : 4, x.right(1));
            checks.due("the first", tired < 8 ? tired + 4 : tired, x.ofCompany(0, 3));
            checks.due("the second", tired < 8 ? 0 : 4, x.ofCompany(1, 3));
            checks.due("ready", 0, x.ofGun(1, 5));
            checks.due("hits", 0, x.ofGun(1, 4));
            checks.due("heat", 0, x.ofGun(1, 3));
            checks.due("ready guns of the garrison", 1, x.ofSide(1, 12));
            checks.refuses("a gun that is ready", Checks.STATE, x, () -> x.right(1));
        }
        Siegelines spiked = Fields.plain(5, 5);
        spiked.ground(13, 0, 0, 4, 0);
        spiked.gun(1, 13, 1);
        spiked.company(0, 12, 10);
        spiked.company(1, 14, 200);
        spiked.begin();
        spiked.order(0, 5, 13);
        spiked.pass(1);
        checks.due("spiked", 2, spiked.ofGun(0, 5));
        checks.refuses("nobody of its side is there", Checks.STATE, spiked, () -> spiked.right(0));
        spiked.order(1, 5, 13);
        spiked.pass(1);
        checks.due("the garrison is back", 13, spiked.ofCompany(1, 1));
        checks.due("a spiked gun is set right", 5, spiked.right(0));
        checks.due("it is ready", 0, spiked.ofGun(0, 5));
    }

    /** "CALIBRE * 10 for a WALL (for a GUN of the SIDE 0); 20 for each READY GUN; MEN of the other SIDE there / 10". */
    private static void targetPoints() {
        for (int calibre = 1; calibre <= 3; calibre++) {
            for (int more = 0; more <= 10; more++) {
                Siegelines x = Fields.plain(9, 5);
                x.ground(3, 0, 0, 1, 9);
                x.gun(0, 9, calibre);
                int men = 10 * calibre * 10 + more;
                for (int left = men; left > 0; left -= 200) {
                    x.company(1, 12, Math.min(200, left));
                }
                checks.due(name("a wall at 3 or men at 12", calibre, men), more < 10 ? 3 : 12, x.target(0));
            }
        }
        for (int men = 199; men <= 210; men++) {
            Siegelines x = Fields.plain(9, 5);
            x.gun(0, 9, 1);
            x.gun(1, 3, 1);
            x.company(1, 12, men - 100);
            x.company(1, 12, 100);
            checks.due(name("a gun at 3 or men at 12", men), men < 210 ? 3 : 12, x.target(0));
        }
        for (int side = 0; side <= 1; side++) {
            for (int men = 9; men <= 10; men++) {
                Siegelines x = Fields.plain(9, 5);
                x.gun(side, 9, 1);
                x.company(1 - side, 12, men);
                checks.due(name("men", side, men), men == 10 ? 12 : -1, x.target(0));
            }
        }
    }

    /** "At which it could FIRE now": one SEES where one is, but a MORTAR is too near; 3 to 8 for that. */
    private static void targetWhereItIs() {
        for (int calibre = 1; calibre <= 3; calibre++) {
            Siegelines x = Fields.plain(12, 5);
            x.gun(0, 24, calibre);
            x.company(1, 24, 200);
            checks.due("where it is", calibre == MORTAR ? -1 : 24, x.target(0));
        }
        for (int far = 1; far <= 11; far++) {
            Siegelines x = Fields.plain(12, 5);
            x.gun(0, 24, MORTAR);
            x.gun(0, 24, 2);
            x.company(0, 0, 1);
            x.company(1, 24 + far, 200);
            x.begin();
            checks.due(name("a mortar, far", far), far >= 3 && far <= 8 ? 24 + far : -1, x.target(0));
            checks.due(name("another by night, far", far), far <= 4 ? 24 + far : -1, x.target(1));
            x.pass(5);
            checks.due(name("another by day, far", far), far <= 9 ? 24 + far : -1, x.target(1));
        }
    }

    /** "AIM, HEAT and POWDER do not matter"; "NONE, if that is 0 for all, or the GUN is not READY". */
    private static void targetOfNothing() {
        Siegelines x = Fields.plain(9, 5);
        x.gun(0, 9, 1);
        x.gun(1, 12, 1);
        x.company(0, 0, 9);
        x.company(1, 44, 9);
        x.begin();
        checks.due("a gun without powder and aim", 12, x.target(0));
        checks.due("and the one that is its target", 9, x.target(1));
        Siegelines none = Fields.plain(9, 5);
        none.gun(0, 9, 1);
        none.gun(0, 12, 1);
        none.company(0, 13, 200);
        none.company(1, 14, 9);
        checks.due("nothing of the other side", -1, none.target(0));
        Siegelines fired = twelveHits();
        checks.due("nothing that is ready", -1, fired.target(0));
        checks.due("nor is it", -1, fired.target(1));
        Siegelines hot = battery(1);
        hot.company(1, 13, 200);
        open(hot);
        hot.pass(3);
        checks.due("a hot gun", 3, hot.ofGun(0, 3));
        checks.due("has its target", 13, hot.target(0));
    }
}

/** A fortress, and those who take it by rule, hour by hour, as ../shared/DOC.md tells it. */
public final class Siegelines {
    private static final int NONE = -1;
    private static final int MOST_SQUARES = 144;
    private static final int MOST_GUNS = 16;
    private static final int MOST_COMPANIES = 12;
    private static final int MOST_MINES = 6;
    private static final int MOST_LETTERS = 6;
    private static final int LONGEST_MINE = 6;
    private static final int LAST_HOUR = 2400;

    private static final int BESIEGERS = 0;
    private static final int GARRISON = 1;

    private static final int EARTH = 0;
    private static final int CLAY = 1;
    private static final int MARSH = 2;
    private static final int ROCK = 3;

    private static final int PLAIN = 0;
    private static final int WALL = 1;
    private static final int DITCH = 2;
    private static final int TOWN = 3;
    private static final int COVER = 4;
    private static final int TRENCH = 5;
    private static final int BREACH = 6;
    private static final int CRATER = 7;

    private static final int READY = 0;
    private static final int DISMOUNTED = 1;
    private static final int SPIKED = 2;
    private static final int MORTAR = 3;

    private static final int REST = 0;
    private static final int DIG = 1;
    private static final int GUARD = 2;
    private static final int MAKE = 3;
    private static final int MARCH = 4;
    private static final int STORM = 5;
    private static final int MEND = 6;
    private static final int TOO_TIRED = 10;

    private static final int DUG = 0;
    private static final int STOPPED = 1;
    private static final int BLOWN = 2;
    private static final int CRUSHED = 3;

    private static final int SETTING = 0;
    private static final int GOES_ON = 1;
    private static final int OVER = 2;

    private static final int OUT = 0;
    private static final int THROUGH = 1;
    private static final int CAUGHT = 2;

    /** The four directions, so that their squares come by numbers. */
    private static final int[] BY_NUMBERS = {0, 3, 1, 2};
    private static final String WORK_SIGNS = ".#~Tc=/u";

    private static final int[] SQUARE_FACTS = {2, 3, 4, 5};
    private static final int[] GUN_FACTS = {1, 3, 4, 5, 6, 7};
    private static final int[] COMPANY_FACTS = {1, 2, 3, 4, 5, 6};
    private static final int[] MINE_FACTS = {2, 4, 5, 6, 7, 8};

    private final Siege live = new Siege();
    /** A second siege for forecasts, made once: no call makes objects of its own. */
    private final Siege trial = new Siege();

    public Siegelines() {
    }

    public int lay(int wide, int high, int seed) throws IllegalArgumentException, IllegalStateException {
        if (wide < 5 || wide > 12 || high < 5 || high > 12 || seed < 0 || seed > 100) {
            throw new IllegalArgumentException("no such map");
        }
        if (live.phase != SETTING) {
            throw new IllegalStateException("not the setting");
        }
        live.startOver();
        live.ground.layOut(wide, high, seed);
        return live.ground.countOf(WALL);
    }

    public int ground(int square, int height, int soil, int work, int firm)
            throws IndexOutOfBoundsException, IllegalArgumentException, IllegalStateException {
        Ground ground = live.ground;
        if (!ground.isOn(square)) {
            throw new IndexOutOfBoundsException("no such square");
        }
        if (height < 0 || height > 9 || soil < EARTH || soil > ROCK || work < PLAIN || work > CRATER) {
            throw new IllegalArgumentException("no such ground");
        }
        if (work == WALL && (firm < 1 || firm > 99)) {
            throw new IllegalArgumentException("no such wall");
        }
        if ((square == ground.camp && work != PLAIN) || (square == ground.gate && !isGateWork(work))) {
            throw new IllegalArgumentException("not on camp or gate");
        }
        if (live.phase != SETTING || live.isTakenUp(square)) {
            throw new IllegalStateException("not the setting, or not empty");
        }
        ground.shape(square, height, soil, work, firm);
        return ground.countOf(work);
    }

    public int camp(int camp, int gate)
            throws IndexOutOfBoundsException, IllegalArgumentException, IllegalStateException {
        Ground ground = live.ground;
        if (!ground.isOn(camp) || !ground.isOn(gate)) {
            throw new IndexOutOfBoundsException("no such square");
        }
        if (camp == gate || ground.workOf(camp) != PLAIN || !isGateWork(ground.workOf(gate))) {
            throw new IllegalArgumentException("no place for camp or gate");
        }
        if (live.phase != SETTING || live.gunCount > 0 || live.companyCount > 0) {
            throw new IllegalStateException("not the setting, or not empty");
        }
        ground.camp = camp;
        ground.gate = gate;
        return ground.far(camp, gate);
    }

    public int stores(int side, int powder, int food, int gabions, int morale)
            throws IllegalArgumentException, IllegalStateException {
        if (!isSide(side) || powder < 0 || powder > 9999 || food < 0 || food > 9999
                || gabions < 0 || gabions > 999 || morale < 1 || morale > 100) {
            throw new IllegalArgumentException("no such stores");
        }
        if (live.phase != SETTING) {
            throw new IllegalStateException("not the setting");
        }
        live.of(side).tell(powder, food, gabions, morale);
        return powder + food;
    }

    public int town(int people, int supply, int days) throws IllegalArgumentException, IllegalStateException {
        if (people < 0 || people > 2000 || supply < 0 || supply > 200 || days < 1 || days > 40) {
            throw new IllegalArgumentException("no such town");
        }
        if (live.phase != SETTING) {
            throw new IllegalStateException("not the setting");
        }
        live.tellTown(people, supply, days);
        return people / 20;
    }

    public int gun(int side, int square, int calibre)
            throws IndexOutOfBoundsException, IllegalArgumentException, IllegalStateException {
        if (!live.ground.isOn(square)) {
            throw new IndexOutOfBoundsException("no such square");
        }
        if (!isSide(side) || calibre < 1 || calibre > MORTAR
                || live.ground.belongsTo(square) == 1 - side || isNoGunWork(live.ground.workOf(square))) {
            throw new IllegalArgumentException("no such gun");
        }
        if (live.phase != SETTING || live.gunCount >= MOST_GUNS) {
            throw new IllegalStateException("not the setting, or no further gun");
        }
        return live.placeGun(side, square, calibre);
    }

    public int company(int side, int square, int men)
            throws IndexOutOfBoundsException, IllegalArgumentException, IllegalStateException {
        if (!live.ground.isOn(square)) {
            throw new IndexOutOfBoundsException("no such square");
        }
        if (!isSide(side) || men < 1 || men > 200 || live.ground.belongsTo(square) == 1 - side) {
            throw new IllegalArgumentException("no such company");
        }
        if (live.phase != SETTING || live.companyCount >= MOST_COMPANIES) {
            throw new IllegalStateException("not the setting, or no further company");
        }
        return live.placeCompany(side, square, men);
    }

    public int muster(int seed) throws IllegalArgumentException, IllegalStateException {
        if (seed < 0 || seed > 99) {
            throw new IllegalArgumentException("no such seed");
        }
        if (live.phase != SETTING || live.ground.count == 0 || live.companyCount > 0 || live.gunCount > 0) {
            throw new IllegalStateException("not the setting, no map, or not empty");
        }
        live.musterAll(seed);
        return live.menOf(BESIEGERS) - live.menOf(GARRISON);
    }

    public int begin() throws IllegalStateException {
        if (live.phase != SETTING || live.companiesOf(BESIEGERS) == 0 || live.companiesOf(GARRISON) == 0) {
            throw new IllegalStateException("not the setting, or a side without companies");
        }
        live.phase = GOES_ON;
        live.besiegers.brought = live.besiegers.powder;
        live.garrison.brought = live.garrison.powder;
        return live.companyCount;
    }

    public int order(int company, int order, int goal)
            throws IndexOutOfBoundsException, IllegalArgumentException, IllegalStateException {
        Company ordered = live.companyAt(company);
        boolean takesGoal = order == DIG || order == MARCH || order == STORM || order == MEND;
        if (ordered == null || (takesGoal && !live.ground.isOn(goal))) {
            throw new IndexOutOfBoundsException("no such company or square");
        }
        if (order < REST || order > MEND || (order == DIG && ordered.side == GARRISON)
                || (order == MEND && ordered.side == BESIEGERS)) {
            throw new IllegalArgumentException("no such order");
        }
        if (live.phase != GOES_ON || ordered.men == 0) {
            throw new IllegalStateException("no siege goes on, or the company is gone");
        }
        int before = ordered.order;
        ordered.order = order;
        ordered.goal = takesGoal ? goal : NONE;
        return before;
    }

    public int aim(int gun, int square) throws IndexOutOfBoundsException, IllegalStateException {
        Gun aimed = live.gunAt(gun);
        if (aimed == null || (square != NONE && !live.ground.isOn(square))) {
            throw new IndexOutOfBoundsException("no such gun or square");
        }
        if (live.phase != GOES_ON) {
            throw new IllegalStateException("no siege goes on");
        }
        int before = aimed.aim;
        aimed.aim = square;
        return before;
    }

    public int haul(int gun, int square) throws IndexOutOfBoundsException, IllegalStateException {
        Gun hauled = live.gunAt(gun);
        if (hauled == null || !live.ground.isOn(square)) {
            throw new IndexOutOfBoundsException("no such gun or square");
        }
        if (live.phase != GOES_ON || !live.ground.touches(hauled.square, square)
                || isNoGunWork(live.ground.workOf(square))) {
            throw new IllegalStateException("no siege goes on, or the gun can not go there");
        }
        Company crew = live.freshCompanyAt(hauled.side, square);
        if (crew == null) {
            throw new IllegalStateException("no company to haul it");
        }
        crew.tired += 2;
        hauled.square = square;
        hauled.aim = NONE;
        return crew.tired;
    }

    public int right(int gun) throws IndexOutOfBoundsException, IllegalStateException {
        Gun righted = live.gunAt(gun);
        if (righted == null) {
            throw new IndexOutOfBoundsException("no such gun");
        }
        if (live.phase != GOES_ON || righted.state == READY) {
            throw new IllegalStateException("no siege goes on, or the gun is ready");
        }
        Company crew = live.freshCompanyAt(righted.side, righted.square);
        if (crew == null) {
            throw new IllegalStateException("no company to set it right");
        }
        crew.tired += 4;
        righted.state = READY;
        righted.hits = 0;
        righted.heat = 0;
        return crew.tired;
    }

    public int mine(int company, int direction)
            throws IndexOutOfBoundsException, IllegalArgumentException, IllegalStateException {
        Company miners = live.companyAt(company);
        if (miners == null) {
            throw new IndexOutOfBoundsException("no such company");
        }
        if (direction < 0 || direction > 3) {
            throw new IllegalArgumentException("no such direction");
        }
        if (live.phase != GOES_ON || miners.men == 0 || live.mineCount >= MOST_MINES
                || !Mining.isMouth(miners.side, live.ground.workOf(miners.square))) {
            throw new IllegalStateException("no siege goes on, or no mine can be begun");
        }
        return live.beginMine(miners.side, miners.square, direction);
    }

    public int charge(int mine, int barrels)
            throws IndexOutOfBoundsException, IllegalArgumentException, IllegalStateException {
        Mine charged = live.mineAt(mine);
        if (charged == null) {
            throw new IndexOutOfBoundsException("no such mine");
        }
        if (barrels < 1 || barrels > 60) {
            throw new IllegalArgumentException("no such charge");
        }
        if (live.phase != GOES_ON || !charged.isWhole() || live.of(charged.side).powder < barrels) {
            throw new IllegalStateException("no siege goes on, no such mine any more, or no powder");
        }
        live.of(charged.side).powder -= barrels;
        charged.charge += barrels;
        return charged.charge;
    }

    public int blow(int mine) throws IndexOutOfBoundsException, IllegalStateException {
        Mine blown = live.mineAt(mine);
        if (blown == null) {
            throw new IndexOutOfBoundsException("no such mine");
        }
        if (live.phase != GOES_ON || !blown.isWhole() || blown.charge == 0) {
            throw new IllegalStateException("no siege goes on, or the mine can not be blown");
        }
        int lost = Mining.blowUp(live, blown);
        live.askWhetherOver();
        return lost;
    }

    public int letter() throws IllegalStateException {
        if (live.phase != GOES_ON || !live.isNight() || live.post.sent >= MOST_LETTERS) {
            throw new IllegalStateException("no siege goes on, no night, or no further letter");
        }
        live.post.sent++;
        return live.post.sent;
    }

    public int expel(int people) throws IllegalArgumentException, IllegalStateException {
        if (people < 1 || people > live.people) {
            throw new IllegalArgumentException("not so many people");
        }
        if (live.phase != GOES_ON) {
            throw new IllegalStateException("no siege goes on");
        }
        live.people -= people;
        live.garrison.changeMorale(-5);
        return live.people;
    }

    public boolean parley() throws IllegalStateException {
        if (live.phase != GOES_ON) {
            throw new IllegalStateException("no siege goes on");
        }
        return live.askForTerms();
    }

    public int pass(int hours) throws IllegalArgumentException, IllegalStateException {
        if (hours < 1 || hours > 48) {
            throw new IllegalArgumentException("no such hours");
        }
        if (live.phase != GOES_ON || live.clock + hours > LAST_HOUR) {
            throw new IllegalStateException("no siege goes on, or no time is left");
        }
        for (int hour = 0; hour < hours && live.phase == GOES_ON; hour++) {
            live.letHourGo();
        }
        return live.clock;
    }

    public int ofSquare(int square, int what) throws IndexOutOfBoundsException, IllegalArgumentException {
        if (!live.ground.isOn(square)) {
            throw new IndexOutOfBoundsException("no such square");
        }
        if (what < 0 || what > 9) {
            throw new IllegalArgumentException("no such question");
        }
        return squareFact(square, what);
    }

    public boolean sees(int from, int to) throws IndexOutOfBoundsException {
        if (!live.ground.isOn(from) || !live.ground.isOn(to)) {
            throw new IndexOutOfBoundsException("no such square");
        }
        return live.ground.isSeen(from, to, live.sightFar());
    }

    public int underFire(int square, int side, int what) throws IndexOutOfBoundsException, IllegalArgumentException {
        if (!live.ground.isOn(square)) {
            throw new IndexOutOfBoundsException("no such square");
        }
        if (!isSide(side) || what < 0 || what > 1) {
            throw new IllegalArgumentException("no such side or question");
        }
        return what == 0 ? Gunnery.gunsSeeing(live, side, square) : Gunnery.rakingSquares(live, side, square);
    }

    public int ofGun(int gun, int what) throws IndexOutOfBoundsException, IllegalArgumentException {
        Gun asked = live.gunAt(gun);
        if (asked == null) {
            throw new IndexOutOfBoundsException("no such gun");
        }
        if (what < 0 || what > 7) {
            throw new IllegalArgumentException("no such question");
        }
        return gunFact(asked, what);
    }

    public int ofCompany(int company, int what) throws IndexOutOfBoundsException, IllegalArgumentException {
        Company asked = live.companyAt(company);
        if (asked == null) {
            throw new IndexOutOfBoundsException("no such company");
        }
        if (what < 0 || what > 6) {
            throw new IllegalArgumentException("no such question");
        }
        return companyFact(asked, what);
    }

    public int ofMine(int mine, int what) throws IndexOutOfBoundsException, IllegalArgumentException {
        Mine asked = live.mineAt(mine);
        if (asked == null) {
            throw new IndexOutOfBoundsException("no such mine");
        }
        if (what < 0 || what > 8) {
            throw new IllegalArgumentException("no such question");
        }
        return mineFact(asked, what);
    }

    public int ofSide(int side, int what) throws IllegalArgumentException {
        if (!isSide(side) || what < 0 || what > 12) {
            throw new IllegalArgumentException("no such side or question");
        }
        return sideFact(side, what);
    }

    public int ofSiege(int what) throws IllegalArgumentException {
        if (what < 0 || what > 12) {
            throw new IllegalArgumentException("no such question");
        }
        return siegeFact(what);
    }

    public String row(int row) throws IndexOutOfBoundsException {
        if (row < 0 || row >= live.ground.high) {
            throw new IndexOutOfBoundsException("no such row");
        }
        StringBuilder signs = new StringBuilder();
        for (int column = 0; column < live.ground.wide; column++) {
            signs.append(signOf(row * live.ground.wide + column));
        }
        return signs.toString();
    }

    public int march(int company, int goal) throws IndexOutOfBoundsException {
        Company asked = live.companyAt(company);
        if (asked == null || !live.ground.isOn(goal)) {
            throw new IndexOutOfBoundsException("no such company or square");
        }
        if (asked.men == 0) {
            return NONE;
        }
        return Duties.wayTo(live, asked, goal);
    }

    public int storm(int company, int goal) throws IndexOutOfBoundsException {
        Company asked = live.companyAt(company);
        if (asked == null || !live.ground.isOn(goal)) {
            throw new IndexOutOfBoundsException("no such company or square");
        }
        if (asked.men == 0 || !Duties.canAssault(live.ground, asked.square, goal)) {
            return NONE;
        }
        return Duties.attackOf(live, asked) - Duties.defenceOf(live, 1 - asked.side, goal);
    }

    public int sap(int company) throws IndexOutOfBoundsException {
        Company asked = live.companyAt(company);
        if (asked == null) {
            throw new IndexOutOfBoundsException("no such company");
        }
        if (asked.men == 0 || asked.side != BESIEGERS) {
            return NONE;
        }
        return Duties.bestDigging(live, asked.square);
    }

    public int target(int gun) throws IndexOutOfBoundsException {
        Gun asked = live.gunAt(gun);
        if (asked == null) {
            throw new IndexOutOfBoundsException("no such gun");
        }
        return asked.state == READY ? Gunnery.bestTarget(live, asked) : NONE;
    }

    public int forecast(int hours, int what) throws IllegalArgumentException, IllegalStateException {
        if (hours < 1 || hours > 48 || what < 0 || what > 4) {
            throw new IllegalArgumentException("no such hours or question");
        }
        if (live.phase != GOES_ON) {
            throw new IllegalStateException("no siege goes on");
        }
        trial.copyFrom(live);
        for (int hour = 0; hour < hours && trial.phase == GOES_ON; hour++) {
            trial.letHourGo();
        }
        return foreseen(what);
    }

    public boolean isSound() {
        return live.isAllSound();
    }

    public long digest() {
        long sum = 58263;
        for (int what = 0; what <= 12; what++) {
            sum = sum * 31 + siegeFact(what);
        }
        for (int side = BESIEGERS; side <= GARRISON; side++) {
            for (int what = 0; what <= 12; what++) {
                sum = sum * 31 + sideFact(side, what);
            }
        }
        for (int square = 0; square < live.ground.count; square++) {
            for (int what : SQUARE_FACTS) {
                sum = sum * 31 + squareFact(square, what);
            }
        }
        for (Gun gun : live.guns) {
            for (int what : GUN_FACTS) {
                sum = gun.isPlaced() ? sum * 31 + gunFact(gun, what) : sum;
            }
        }
        for (Company company : live.companies) {
            for (int what : COMPANY_FACTS) {
                sum = company.isPlaced() ? sum * 31 + companyFact(company, what) : sum;
            }
        }
        for (Mine mine : live.mines) {
            for (int what : MINE_FACTS) {
                sum = mine.isBegun() ? sum * 31 + mineFact(mine, what) : sum;
            }
        }
        return sum * 31 + (live.isAllSound() ? 1 : 0);
    }

    private int foreseen(int what) {
        boolean over = trial.phase == OVER;
        switch (what) {
            case 0: return over ? trial.clock : NONE;
            case 1: return over ? trial.honours : NONE;
            case 2: return trial.menOf(BESIEGERS);
            case 3: return trial.menOf(GARRISON);
            default: return trial.falls;
        }
    }

    private int squareFact(int square, int what) {
        Ground ground = live.ground;
        switch (what) {
            case 0: return ground.heightOf(square);
            case 1: return ground.soilOf(square);
            case 2: return ground.workOf(square);
            case 3: return ground.firmOf(square);
            case 4: return ground.toilOf(square);
            case 5: return ground.topOf(square);
            case 6: return ground.bodyOf(square);
            case 7: return ground.belongsTo(square);
            case 8: return live.menAt(BESIEGERS, square);
            default: return live.menAt(GARRISON, square);
        }
    }

    private int gunFact(Gun gun, int what) {
        switch (what) {
            case 0: return gun.side;
            case 1: return gun.square;
            case 2: return gun.calibre;
            case 3: return gun.heat;
            case 4: return gun.hits;
            case 5: return gun.state;
            case 6: return gun.aim;
            default: return Gunnery.shotsOf(live, gun);
        }
    }

    private int companyFact(Company company, int what) {
        switch (what) {
            case 0: return company.side;
            case 1: return company.square;
            case 2: return company.men;
            case 3: return company.tired;
            case 4: return company.order;
            case 5: return company.goal;
            default: return live.forceOf(company) / 100;
        }
    }

    private int mineFact(Mine mine, int what) {
        switch (what) {
            case 0: return mine.side;
            case 1: return mine.mouth();
            case 2: return mine.head();
            case 3: return mine.direction;
            case 4: return mine.charge;
            case 5: return mine.toil;
            case 6: return mine.state;
            case 7: return mine.length;
            default: return Mining.isHeard(live, mine) ? 1 : 0;
        }
    }

    private int sideFact(int side, int what) {
        Side asked = live.of(side);
        switch (what) {
            case 0: return asked.powder;
            case 1: return asked.food;
            case 2: return asked.gabions;
            case 3: return asked.morale;
            case 4: return asked.hunger;
            case 5: return live.menOf(side);
            case 6: return live.companiesOf(side);
            case 7: return asked.shots;
            case 8: return asked.spent;
            case 9: return asked.losses;
            case 10: return asked.won;
            case 11: return asked.sick;
            default: return live.readyGunsOf(side);
        }
    }

    private int siegeFact(int what) {
        switch (what) {
            case 0: return live.clock;
            case 1: return live.phase;
            case 2: return live.honours;
            case 3: return live.depth();
            case 4: return live.falls;
            case 5: return live.people;
            case 6: return live.fires;
            case 7: return live.post.through;
            case 8: return live.post.days;
            case 9: return live.post.isThere ? 1 : 0;
            case 10: return live.ground.countOf(BREACH);
            case 11: return live.ground.countOf(TRENCH);
            default: return live.mineCount;
        }
    }

    private char signOf(int square) {
        boolean besieged = live.isHeldBy(BESIEGERS, square);
        boolean defended = live.isHeldBy(GARRISON, square);
        if (besieged && defended) {
            return '*';
        }
        if (besieged) {
            return 'o';
        }
        if (defended) {
            return 'x';
        }
        int work = live.ground.workOf(square);
        return work >= 0 && work < WORK_SIGNS.length() ? WORK_SIGNS.charAt(work) : '.';
    }

    private static boolean isSide(int side) {
        return side == BESIEGERS || side == GARRISON;
    }

    private static boolean isGateWork(int work) {
        return work == PLAIN || work == TOWN || work == COVER;
    }

    private static boolean isNoGunWork(int work) {
        return work == DITCH || work == BREACH || work == CRATER;
    }

    private static int nextDrawn(int drawn) {
        return (31 * drawn + 17) % 97;
    }

    /** The map: what each square is, and what follows from that alone. */
    private static final class Ground {
        final int[] height = new int[MOST_SQUARES];
        final int[] soil = new int[MOST_SQUARES];
        final int[] work = new int[MOST_SQUARES];
        final int[] firm = new int[MOST_SQUARES];
        final int[] toil = new int[MOST_SQUARES];
        final int[] column = new int[MOST_SQUARES];
        final int[] line = new int[MOST_SQUARES];
        /** For marches: how far each square is from the goal; kept here so that no march makes a row. */
        final int[] steps = new int[MOST_SQUARES];
        final int[] queue = new int[MOST_SQUARES];
        int wide;
        int high;
        int count;
        int camp = NONE;
        int gate = NONE;

        void copyFrom(Ground other) {
            wide = other.wide;
            high = other.high;
            count = other.count;
            camp = other.camp;
            gate = other.gate;
            for (int square = 0; square < MOST_SQUARES; square++) {
                height[square] = other.height[square];
                soil[square] = other.soil[square];
                work[square] = other.work[square];
                firm[square] = other.firm[square];
                toil[square] = other.toil[square];
                column[square] = other.column[square];
                line[square] = other.line[square];
            }
        }

        void layOut(int newWide, int newHigh, int seed) {
            wide = newWide;
            high = newHigh;
            count = newWide * newHigh;
            int drawn = seed;
            for (int square = 0; square < count && square < MOST_SQUARES; square++) {
                column[square] = wide > 0 ? square % wide : 0;
                line[square] = wide > 0 ? square / wide : 0;
                int level = 0;
                int kind = EARTH;
                if (seed < 100) {
                    drawn = nextDrawn(drawn);
                    level = drawn % 3;
                    drawn = nextDrawn(drawn);
                    kind = soilBy(drawn % 10);
                }
                shape(square, level, kind, PLAIN, 0);
            }
            camp = 0;
            gate = count - 1;
            if (seed < 100) {
                raiseFort();
                digDitch();
                openGate();
            }
        }

        private static int soilBy(int drawn) {
            if (drawn < 6) {
                return EARTH;
            }
            return drawn < 8 ? CLAY : drawn == 8 ? MARSH : ROCK;
        }

        private void raiseFort() {
            for (int square = 0; square < count && square < MOST_SQUARES; square++) {
                int c = column[square];
                int r = line[square];
                if (c < 4 || c > 8 || r < 4 || r > 8) {
                    continue;
                }
                boolean inside = c > 4 && c < 8 && r > 4 && r < 8;
                shape(square, inside ? 3 : 4, soil[square], inside ? TOWN : WALL, 40);
            }
        }

        private void digDitch() {
            for (int square = 0; square < count && square < MOST_SQUARES; square++) {
                if (work[square] == PLAIN && touchesWork(square, WALL)) {
                    shape(square, 0, soil[square], DITCH, 0);
                }
            }
        }

        private void openGate() {
            if (wide > 6 && high > 6) {
                gate = 6 * wide + 6;
            } else if (isOn(gate)) {
                shape(gate, height[gate], soil[gate], PLAIN, 0);
            }
        }

        void shape(int square, int newHeight, int newSoil, int newWork, int newFirm) {
            if (isOn(square)) {
                height[square] = newHeight;
                soil[square] = newSoil;
                work[square] = newWork;
                firm[square] = newWork == WALL ? newFirm : 0;
                toil[square] = 0;
            }
        }

        boolean isOn(int square) {
            return square >= 0 && square < count && square < MOST_SQUARES;
        }

        int heightOf(int square) {
            return isOn(square) ? height[square] : 0;
        }

        int soilOf(int square) {
            return isOn(square) ? soil[square] : NONE;
        }

        int workOf(int square) {
            return isOn(square) ? work[square] : NONE;
        }

        int firmOf(int square) {
            return isOn(square) && work[square] == WALL ? firm[square] : 0;
        }

        int toilOf(int square) {
            return isOn(square) ? toil[square] : 0;
        }

        int countOf(int kind) {
            int found = 0;
            for (int square = 0; square < count && square < MOST_SQUARES; square++) {
                if (work[square] == kind) {
                    found++;
                }
            }
            return found;
        }

        int belongsTo(int square) {
            if (square < 0 || square >= count || square >= MOST_SQUARES) {
                return NONE;
            }
            int kind = work[square];
            if (kind == WALL || kind == TOWN || kind == COVER || square == gate) {
                return GARRISON;
            }
            return kind == TRENCH || square == camp ? BESIEGERS : NONE;
        }

        int far(int a, int b) {
            if (!isOn(a) || !isOn(b)) {
                return MOST_SQUARES;
            }
            int columns = Math.abs(column[a] - column[b]);
            int rows = Math.abs(line[a] - line[b]);
            return columns > rows ? columns : rows;
        }

        boolean touches(int a, int b) {
            return isOn(a) && isOn(b) && Math.abs(column[a] - column[b]) + Math.abs(line[a] - line[b]) == 1;
        }

        boolean touchesWork(int square, int kind) {
            for (int direction = 0; direction < 4; direction++) {
                int beside = next(square, direction);
                if (beside != NONE && workOf(beside) == kind) {
                    return true;
                }
            }
            return false;
        }

        /** The square beside a square in a direction (0 up, 1 right, 2 down, 3 left), or NONE. */
        int next(int square, int direction) {
            if (square < 0 || square >= count || square >= MOST_SQUARES) {
                return NONE;
            }
            switch (direction) {
                case 0: return line[square] > 0 ? square - wide : NONE;
                case 1: return column[square] < wide - 1 ? square + 1 : NONE;
                case 2: return line[square] < high - 1 ? square + wide : NONE;
                default: return column[square] > 0 ? square - 1 : NONE;
            }
        }

        int topOf(int square) {
            if (square < 0 || square >= count || square >= MOST_SQUARES) {
                return 0;
            }
            int top = 2 * height[square];
            switch (work[square]) {
                case WALL: return top + 6;
                case TOWN: return top + 4;
                case BREACH: return top + 2;
                case COVER: return top + 2;
                case DITCH: return top - 4;
                case CRATER: return top - 2;
                default: return top;
            }
        }

        int bodyOf(int square) {
            return topOf(square) + bodyOverTop(square);
        }

        private int bodyOverTop(int square) {
            return square >= 0 && square < count && square < MOST_SQUARES && work[square] == TRENCH ? -2 : 1;
        }

        /** How many columns or rows from its beginning a line of n squares is at its square k. */
        private static int alongLine(int apart, int n, int k) {
            return n > 0 ? Math.floorDiv(2 * k * apart + n, 2 * n) : 0;
        }

        boolean isSeen(int a, int b, int sight) {
            if (!isOn(a) || !isOn(b)) {
                return false;
            }
            int across = column[b] - column[a];
            int down = line[b] - line[a];
            int n = Math.max(Math.abs(across), Math.abs(down));
            if (n > sight) {
                return false;
            }
            int eye = topOf(a) + 2;
            int body = topOf(b) + bodyOverTop(b);
            for (int k = 1; k < n; k++) {
                int hiding = a + alongLine(down, n, k) * wide + alongLine(across, n, k);
                if (topOf(hiding) * n > eye * (n - k) + body * k) {
                    return false;
                }
            }
            return true;
        }

        boolean isRaked(int a, int square, int sight) {
            if (a == square || !isOn(a) || !isOn(square) || work[square] != TRENCH || !isSeen(a, square, sight)) {
                return false;
            }
            int across = column[square] - column[a];
            int down = line[square] - line[a];
            int n = Math.max(Math.abs(across), Math.abs(down));
            int c = column[a] + alongLine(across, n, n + 1);
            int r = line[a] + alongLine(down, n, n + 1);
            return c >= 0 && c < wide && r >= 0 && r < high && workOf(r * wide + c) == TRENCH;
        }

        /** Whether a square of a WORK is so FAR or less from a square. */
        boolean isNear(int square, int kind, int most) {
            for (int other = 0; other < count && other < MOST_SQUARES; other++) {
                if (work[other] == kind && far(square, other) <= most) {
                    return true;
                }
            }
            return false;
        }
    }

    private static final class Gun {
        int side = NONE;
        int square = NONE;
        int calibre;
        int heat;
        int hits;
        int state = READY;
        int aim = NONE;

        void place(int newSide, int newSquare, int newCalibre) {
            side = newSide;
            square = newSquare;
            calibre = newCalibre;
        }

        void copyFrom(Gun other) {
            side = other.side;
            square = other.square;
            calibre = other.calibre;
            heat = other.heat;
            hits = other.hits;
            state = other.state;
            aim = other.aim;
        }

        boolean isPlaced() {
            return side != NONE;
        }

        boolean isReadyOf(int asked) {
            return side == asked && state == READY;
        }
    }

    private static final class Company {
        int side = NONE;
        int square = NONE;
        int men;
        int tired;
        int order = REST;
        int goal = NONE;

        void place(int newSide, int newSquare, int newMen) {
            side = newSide;
            square = newSquare;
            men = newMen;
        }

        void copyFrom(Company other) {
            side = other.side;
            square = other.square;
            men = other.men;
            tired = other.tired;
            order = other.order;
            goal = other.goal;
        }

        boolean isPlaced() {
            return side != NONE;
        }

        /** A company that is gone is nowhere. */
        boolean isAt(int askedSide, int askedSquare) {
            return men > 0 && side == askedSide && square == askedSquare;
        }

        boolean isOnGuard() {
            return men > 0 && order == GUARD && tired < TOO_TIRED;
        }

        void restNow() {
            order = REST;
            goal = NONE;
        }
    }

    private static final class Mine {
        final int[] squares = new int[LONGEST_MINE];
        int side = NONE;
        int length;
        int direction;
        int charge;
        int toil;
        int state = DUG;

        void place(int newSide, int mouth, int newDirection) {
            side = newSide;
            squares[0] = mouth;
            length = 1;
            direction = newDirection;
        }

        void copyFrom(Mine other) {
            for (int i = 0; i < LONGEST_MINE; i++) {
                squares[i] = other.squares[i];
            }
            side = other.side;
            length = other.length;
            direction = other.direction;
            charge = other.charge;
            toil = other.toil;
            state = other.state;
        }

        boolean isBegun() {
            return side != NONE;
        }

        boolean isWhole() {
            return side != NONE && (state == DUG || state == STOPPED);
        }

        int mouth() {
            return length > 0 ? squares[0] : NONE;
        }

        int head() {
            return length > 0 && length <= LONGEST_MINE ? squares[length - 1] : NONE;
        }

        void goOn(int square) {
            if (length >= 0 && length < LONGEST_MINE) {
                squares[length] = square;
                length++;
                toil = 0;
            }
        }
    }

    private static final class Side {
        int powder;
        int food;
        int gabions;
        int morale = 60;
        int hunger;
        int shots;
        int spent;
        int losses;
        int won;
        int sick;
        /** POWDER as the siege began, and that came as SUPPLY. */
        int brought;

        void tell(int newPowder, int newFood, int newGabions, int newMorale) {
            powder = newPowder;
            food = newFood;
            gabions = newGabions;
            morale = newMorale;
        }

        void copyFrom(Side other) {
            powder = other.powder;
            food = other.food;
            gabions = other.gabions;
            morale = other.morale;
            hunger = other.hunger;
            shots = other.shots;
            spent = other.spent;
            losses = other.losses;
            won = other.won;
            sick = other.sick;
            brought = other.brought;
        }

        void changeMorale(int more) {
            int changed = morale + more;
            morale = changed < 0 ? 0 : changed > 100 ? 100 : changed;
        }

        void spend(int barrels) {
            powder -= barrels;
            spent += barrels;
        }
    }

    /** The letters and the relief. */
    private static final class Post {
        final int[] daysOut = new int[MOST_LETTERS];
        final int[] fate = new int[MOST_LETTERS];
        int sent;
        int through;
        int days = 10;
        boolean isSetOut;
        boolean isThere;

        void copyFrom(Post other) {
            for (int i = 0; i < MOST_LETTERS; i++) {
                daysOut[i] = other.daysOut[i];
                fate[i] = other.fate[i];
            }
            sent = other.sent;
            through = other.through;
            days = other.days;
            isSetOut = other.isSetOut;
            isThere = other.isThere;
        }

        void loseDay() {
            if (days > 0) {
                days--;
            }
        }

        void swim(int guards) {
            for (int i = 0; i < sent && i < MOST_LETTERS; i++) {
                if (fate[i] != OUT) {
                    continue;
                }
                daysOut[i]++;
                if (guards < daysOut[i]) {
                    fate[i] = THROUGH;
                    through++;
                    comeThrough();
                } else if (daysOut[i] >= 4) {
                    fate[i] = CAUGHT;
                }
            }
        }

        private void comeThrough() {
            if (isSetOut) {
                loseDay();
            }
            isSetOut = true;
        }
    }

    /** All that is told of one siege, and what several parts ask of it. */
    private static final class Siege {
        final Ground ground = new Ground();
        final Gun[] guns = new Gun[MOST_GUNS];
        final Company[] companies = new Company[MOST_COMPANIES];
        final Mine[] mines = new Mine[MOST_MINES];
        final Side besiegers = new Side();
        final Side garrison = new Side();
        final Post post = new Post();
        int gunCount;
        int companyCount;
        int mineCount;
        int clock;
        int phase;
        int honours = NONE;
        int falls;
        int people;
        int supply;
        int fires;

        Siege() {
            for (int i = 0; i < MOST_GUNS; i++) {
                guns[i] = new Gun();
            }
            for (int i = 0; i < MOST_COMPANIES; i++) {
                companies[i] = new Company();
            }
            for (int i = 0; i < MOST_MINES; i++) {
                mines[i] = new Mine();
            }
        }

        /** Takes back what can be told in the setting; the rest of a siege has not begun there. */
        void startOver() {
            for (Gun gun : guns) {
                gun.place(NONE, NONE, 0);
            }
            for (Company company : companies) {
                company.place(NONE, NONE, 0);
            }
            gunCount = 0;
            companyCount = 0;
            besiegers.tell(0, 0, 0, 60);
            garrison.tell(0, 0, 0, 60);
            tellTown(0, 0, 10);
        }

        void tellTown(int newPeople, int newSupply, int days) {
            people = newPeople;
            supply = newSupply;
            post.days = days;
        }

        void copyFrom(Siege other) {
            ground.copyFrom(other.ground);
            for (int i = 0; i < MOST_GUNS; i++) {
                guns[i].copyFrom(other.guns[i]);
            }
            for (int i = 0; i < MOST_COMPANIES; i++) {
                companies[i].copyFrom(other.companies[i]);
            }
            for (int i = 0; i < MOST_MINES; i++) {
                mines[i].copyFrom(other.mines[i]);
            }
            besiegers.copyFrom(other.besiegers);
            garrison.copyFrom(other.garrison);
            post.copyFrom(other.post);
            gunCount = other.gunCount;
            companyCount = other.companyCount;
            mineCount = other.mineCount;
            clock = other.clock;
            phase = other.phase;
            honours = other.honours;
            falls = other.falls;
            people = other.people;
            supply = other.supply;
            fires = other.fires;
        }

        Side of(int side) {
            return side == GARRISON ? garrison : besiegers;
        }

        Gun gunAt(int number) {
            return number >= 0 && number < gunCount && number < MOST_GUNS ? guns[number] : null;
        }

        Company companyAt(int number) {
            return number >= 0 && number < companyCount && number < MOST_COMPANIES ? companies[number] : null;
        }

        Mine mineAt(int number) {
            return number >= 0 && number < mineCount && number < MOST_MINES ? mines[number] : null;
        }

        int placeGun(int side, int square, int calibre) {
            if (gunCount < 0 || gunCount >= MOST_GUNS) {
                return NONE;
            }
            guns[gunCount].place(side, square, calibre);
            gunCount++;
            return gunCount - 1;
        }

        int placeCompany(int side, int square, int men) {
            if (companyCount < 0 || companyCount >= MOST_COMPANIES) {
                return NONE;
            }
            companies[companyCount].place(side, square, men);
            companyCount++;
            return companyCount - 1;
        }

        int beginMine(int side, int square, int direction) {
            if (mineCount < 0 || mineCount >= MOST_MINES) {
                return NONE;
            }
            mines[mineCount].place(side, square, direction);
            mineCount++;
            return mineCount - 1;
        }

        void musterAll(int seed) {
            int drawn = seed;
            for (int side = BESIEGERS; side <= GARRISON; side++) {
                Side told = of(side);
                int home = homeOf(side);
                drawn = nextDrawn(drawn);
                told.powder = 100 + drawn;
                drawn = nextDrawn(drawn);
                told.food = 40 + drawn;
                drawn = nextDrawn(drawn);
                told.gabions = 10 + drawn % 10;
                for (int i = 0; i < 4; i++) {
                    drawn = nextDrawn(drawn);
                    placeCompany(side, home, 60 + drawn);
                }
                for (int i = 0; i < 3; i++) {
                    drawn = nextDrawn(drawn);
                    placeGun(side, home, 1 + drawn % 3);
                }
            }
            drawn = nextDrawn(drawn);
            people = 200 + drawn;
            drawn = nextDrawn(drawn);
            supply = 5 + drawn % 10;
            drawn = nextDrawn(drawn);
            post.days = 4 + drawn % 8;
        }

        int homeOf(int side) {
            return side == GARRISON ? ground.gate : ground.camp;
        }

        int hourOfDay() {
            return clock % 24;
        }

        boolean isNight() {
            int hour = clock % 24;
            return hour >= 20 || hour <= 4;
        }

        int sightFar() {
            return isNight() ? 4 : 9;
        }

        boolean isTakenUp(int square) {
            for (Gun gun : guns) {
                if (gun.isPlaced() && gun.square == square) {
                    return true;
                }
            }
            return isHeldBy(BESIEGERS, square) || isHeldBy(GARRISON, square);
        }

        boolean isHeldBy(int side, int square) {
            for (Company company : companies) {
                if (company.isAt(side, square)) {
                    return true;
                }
            }
            return false;
        }

        int menAt(int side, int square) {
            int men = 0;
            for (Company company : companies) {
                if (company.isAt(side, square)) {
                    men += company.men;
                }
            }
            return men;
        }

        int menOf(int side) {
            int men = 0;
            for (Company company : companies) {
                if (company.side == side) {
                    men += company.men;
                }
            }
            return men;
        }

        int companiesOf(int side) {
            int found = 0;
            for (Company company : companies) {
                if (company.side == side && company.men > 0) {
                    found++;
                }
            }
            return found;
        }

        int readyGunsOf(int side) {
            int found = 0;
            for (Gun gun : guns) {
                if (gun.isReadyOf(side)) {
                    found++;
                }
            }
            return found;
        }

        /** The first company of a side on a square that is fit to handle a gun, or null. */
        Company freshCompanyAt(int side, int square) {
            for (Company company : companies) {
                if (company.isAt(side, square) && company.tired < 8) {
                    return company;
                }
            }
            return null;
        }

        int forceOf(Company company) {
            return company.men * (14 - company.tired) * (of(company.side).morale + 50);
        }

        int takeMen(Company company, int wanted) {
            int lost = wanted < company.men ? wanted : company.men;
            company.men -= lost;
            of(company.side).losses += lost;
            return lost;
        }

        void countFight(int winner) {
            of(winner).won++;
            of(winner).changeMorale(4);
            of(1 - winner).changeMorale(-4);
        }

        void batter(int square, int blowOn) {
            if (!ground.isOn(square) || ground.work[square] != WALL) {
                return;
            }
            ground.firm[square] -= blowOn;
            if (ground.firm[square] > 0) {
                return;
            }
            ground.work[square] = BREACH;
            ground.firm[square] = 0;
            if (ground.height[square] > 0) {
                ground.height[square]--;
            }
            falls++;
            garrison.changeMorale(-8);
        }

        void letHourGo() {
            for (Gun gun : guns) {
                int shots = Gunnery.fire(this, gun);
                if (shots > 0) {
                    Gunnery.strike(this, gun, shots);
                }
            }
            if (askWhetherOver()) {
                return;
            }
            for (Company company : companies) {
                if (company.men > 0) {
                    Duties.act(this, company);
                }
                if (askWhetherOver()) {
                    return;
                }
            }
            for (Mine mine : mines) {
                Mining.advance(this, mine);
            }
            if (hourOfDay() == 23) {
                Midnight.come(this);
                if (askWhetherOver()) {
                    return;
                }
            }
            clock++;
        }

        boolean askWhetherOver() {
            if (isHeldBy(BESIEGERS, ground.gate)) {
                people /= 2;
                end(0);
            } else if (companiesOf(GARRISON) == 0) {
                end(0);
            } else if (besiegers.morale == 0 || companiesOf(BESIEGERS) == 0) {
                end(NONE);
            }
            return phase == OVER;
        }

        private void end(int told) {
            phase = OVER;
            honours = told;
        }

        boolean askForTerms() {
            int depth = depth();
            int hungry = 10 * garrison.hunger;
            int weight = 20 * depth + 100 - garrison.morale + (hungry > 30 ? 30 : hungry);
            if (post.isThere) {
                weight -= 40;
            } else if (post.through > 0) {
                weight -= 20;
            }
            if (weight < 120) {
                return false;
            }
            end(depth <= 2 ? 3 : 5 - depth);
            return true;
        }

        int depth() {
            if (standsIn(TOWN)) {
                return 5;
            }
            if (ground.countOf(BREACH) > 0) {
                return standsAtBreach() ? 4 : 3;
            }
            int deepest = 0;
            for (int square = 0; square < ground.count; square++) {
                if (ground.workOf(square) != TRENCH) {
                    continue;
                }
                if (ground.touchesWork(square, DITCH)) {
                    return 2;
                }
                if (ground.isNear(square, WALL, 3)) {
                    deepest = 1;
                }
            }
            return deepest;
        }

        private boolean standsIn(int kind) {
            for (Company company : companies) {
                if (company.men > 0 && company.side == BESIEGERS && ground.workOf(company.square) == kind) {
                    return true;
                }
            }
            return false;
        }

        private boolean standsAtBreach() {
            for (Company company : companies) {
                if (company.men > 0 && company.side == BESIEGERS && ground.touchesWork(company.square, BREACH)) {
                    return true;
                }
            }
            return standsIn(BREACH);
        }

        boolean isAllSound() {
            return isSideSound(BESIEGERS) && isSideSound(GARRISON) && areMenSound() && isGroundSound();
        }

        private boolean isSideSound(int side) {
            Side asked = of(side);
            if (asked.powder < 0 || asked.food < 0 || asked.gabions < 0) {
                return false;
            }
            if (phase == SETTING) {
                return true;
            }
            int inMines = 0;
            for (Mine mine : mines) {
                if (mine.side == side && mine.isWhole()) {
                    inMines += mine.charge;
                }
            }
            return asked.brought == asked.powder + inMines + asked.spent;
        }

        private boolean areMenSound() {
            for (Company company : companies) {
                if (company.men < 0 || company.men > 200) {
                    return false;
                }
            }
            return true;
        }

        private boolean isGroundSound() {
            for (int square = 0; square < ground.count; square++) {
                int work = ground.workOf(square);
                boolean isHome = square == ground.camp || square == ground.gate;
                if (isHome && work != PLAIN && work != TOWN && work != COVER) {
                    return false;
                }
                if (work == WALL && ground.firmOf(square) <= 0) {
                    return false;
                }
            }
            return true;
        }
    }

    /** Part 3: what guns do. */
    private static final class Gunnery {
        static boolean canReach(Siege siege, Gun gun, int square) {
            if (gun.calibre != MORTAR) {
                return siege.ground.isSeen(gun.square, square, siege.sightFar());
            }
            int far = siege.ground.far(gun.square, square);
            return far >= 3 && far <= 8;
        }

        static int shotsOf(Siege siege, Gun gun) {
            if (!gun.isPlaced() || gun.state != READY || gun.aim == NONE || gun.calibre < 1
                    || !canReach(siege, gun, gun.aim)) {
                return 0;
            }
            int most = siege.of(gun.side).powder / gun.calibre;
            int cool = 4 - gun.heat;
            return cool < most ? cool : most;
        }

        /** Lets a gun fire, if it can; returns its shots, whose effect is told by strike. */
        static int fire(Siege siege, Gun gun) {
            int shots = shotsOf(siege, gun);
            if (shots < 1) {
                gun.heat = gun.heat > 0 ? gun.heat - 1 : 0;
                return 0;
            }
            Side side = siege.of(gun.side);
            side.spend(shots * gun.calibre);
            side.shots += shots;
            gun.heat = gun.heat < 3 ? gun.heat + 1 : 3;
            return shots;
        }

        static void strike(Siege siege, Gun gun, int shots) {
            int other = 1 - gun.side;
            siege.batter(gun.aim, shots * gun.calibre);
            for (Gun hit : siege.guns) {
                if (hit.side == other && hit.square == gun.aim) {
                    hit.hits += shots;
                    if (hit.hits >= 10 && hit.state == READY) {
                        hit.state = DISMOUNTED;
                    }
                }
            }
            int loss = lossBy(siege, gun, shots);
            for (Company company : siege.companies) {
                if (company.isAt(other, gun.aim)) {
                    siege.takeMen(company, loss);
                }
            }
            if (gun.calibre == MORTAR && siege.ground.workOf(gun.aim) == TOWN) {
                siege.fires += shots;
            }
        }

        private static int lossBy(Siege siege, Gun gun, int shots) {
            boolean isMortar = gun.calibre == MORTAR;
            switch (siege.ground.workOf(gun.aim)) {
                case TRENCH:
                    return !isMortar && siege.ground.isRaked(gun.square, gun.aim, siege.sightFar())
                            ? shots * 2 : shots;
                case WALL:
                case TOWN:
                case COVER:
                    return isMortar ? shots : shots / 2;
                default:
                    return shots * 3;
            }
        }

        static int gunsSeeing(Siege siege, int side, int square) {
            int found = 0;
            for (Gun gun : siege.guns) {
                if (gun.isReadyOf(side) && siege.ground.isSeen(gun.square, square, siege.sightFar())) {
                    found++;
                }
            }
            return found;
        }

        static int rakingSquares(Siege siege, int side, int square) {
            int found = 0;
            for (int from = 0; from < siege.ground.count; from++) {
                if (isBatteryOf(siege, side, from) && siege.ground.isRaked(from, square, siege.sightFar())) {
                    found++;
                }
            }
            return found;
        }

        private static boolean isBatteryOf(Siege siege, int side, int square) {
            for (Gun gun : siege.guns) {
                if (gun.isReadyOf(side) && gun.square == square) {
                    return true;
                }
            }
            return false;
        }

        static int bestTarget(Siege siege, Gun gun) {
            int best = NONE;
            int most = 0;
            for (int square = 0; square < siege.ground.count; square++) {
                int points = canReach(siege, gun, square) ? pointsOf(siege, gun, square) : 0;
                if (points > most) {
                    most = points;
                    best = square;
                }
            }
            return best;
        }

        private static int pointsOf(Siege siege, Gun gun, int square) {
            int other = 1 - gun.side;
            int points = siege.menAt(other, square) / 10;
            if (gun.side == BESIEGERS && siege.ground.workOf(square) == WALL) {
                points += gun.calibre * 10;
            }
            for (Gun aimedAt : siege.guns) {
                if (aimedAt.isReadyOf(other) && aimedAt.square == square) {
                    points += 20;
                }
            }
            return points;
        }
    }

    /** Part 4: what companies do. */
    private static final class Duties {
        private static final int BARRED = -2;

        static void act(Siege siege, Company company) {
            if (company.tired >= TOO_TIRED || company.order == REST) {
                company.tired = company.tired > 2 ? company.tired - 2 : 0;
                return;
            }
            if (company.order == GUARD) {
                company.tired = company.tired > 1 ? company.tired - 1 : 0;
                return;
            }
            company.tired = company.tired < 12 ? company.tired + 1 : 12;
            switch (company.order) {
                case DIG:
                    dig(siege, company);
                    break;
                case MAKE:
                    makeGabions(siege, company);
                    break;
                case MARCH:
                    goOn(siege, company);
                    break;
                case STORM:
                    assault(siege, company);
                    break;
                case MEND:
                    mend(siege, company);
                    break;
                default:
                    break;
            }
        }

        static boolean canDig(Siege siege, int from, int goal) {
            Ground ground = siege.ground;
            int work = ground.workOf(goal);
            boolean isGround = work == PLAIN || work == COVER || work == BREACH || work == CRATER;
            return isGround && ground.touches(from, goal) && goal != ground.gate && goal != ground.camp
                    && !siege.isHeldBy(GARRISON, goal);
        }

        private static int toilNeeded(int soil) {
            switch (soil) {
                case EARTH: return 20;
                case CLAY: return 30;
                case MARSH: return 24;
                default: return 60;
            }
        }

        private static void dig(Siege siege, Company company) {
            Ground ground = siege.ground;
            int goal = company.goal;
            if (!ground.isOn(goal) || company.side != BESIEGERS || !canDig(siege, company.square, goal)) {
                return;
            }
            ground.toil[goal] += company.men / 10;
            if (ground.toil[goal] < toilNeeded(ground.soil[goal])) {
                return;
            }
            int needed = 0;
            if (ground.soil[goal] == MARSH) {
                needed = 2;
            } else if (Gunnery.gunsSeeing(siege, GARRISON, goal) > 0) {
                needed = 1;
            }
            if (siege.besiegers.gabions < needed) {
                return;
            }
            siege.besiegers.gabions -= needed;
            ground.work[goal] = TRENCH;
            ground.toil[goal] = 0;
            company.square = goal;
            company.restNow();
        }

        /** The square to dig next from a square: seen least, then nearest to the gate. */
        static int bestDigging(Siege siege, int from) {
            int best = NONE;
            int fewest = 0;
            int nearest = 0;
            for (int direction : BY_NUMBERS) {
                int goal = siege.ground.next(from, direction);
                if (goal == NONE || !canDig(siege, from, goal)) {
                    continue;
                }
                int seeing = Gunnery.gunsSeeing(siege, GARRISON, goal);
                int far = siege.ground.far(goal, siege.ground.gate);
                if (best == NONE || seeing < fewest || (seeing == fewest && far < nearest)) {
                    best = goal;
                    fewest = seeing;
                    nearest = far;
                }
            }
            return best;
        }

        private static void makeGabions(Siege siege, Company company) {
            if (company.square == siege.ground.camp || siege.ground.workOf(company.square) == TOWN) {
                siege.of(company.side).gabions += company.men / 20;
            }
        }

        private static void goOn(Siege siege, Company company) {
            if (company.square != company.goal) {
                int next = stepTo(siege, company, company.goal);
                if (next == NONE) {
                    return;
                }
                company.square = next;
            }
            if (company.square == company.goal) {
                company.restNow();
            }
        }

        /** How many squares a company would go to a goal, or NONE. */
        static int wayTo(Siege siege, Company company, int goal) {
            if (company.square == goal) {
                return 0;
            }
            int next = stepTo(siege, company, goal);
            return siege.ground.isOn(next) ? siege.ground.steps[next] + 1 : NONE;
        }

        private static int stepTo(Siege siege, Company company, int goal) {
            Ground ground = siege.ground;
            if (!ground.isOn(goal)) {
                return NONE;
            }
            barWays(siege, company.side, goal);
            if (ground.steps[goal] == BARRED) {
                return NONE;
            }
            measureWays(ground, goal);
            int best = NONE;
            int least = MOST_SQUARES;
            for (int direction : BY_NUMBERS) {
                int next = ground.next(company.square, direction);
                if (ground.isOn(next) && ground.steps[next] >= 0 && ground.steps[next] < least) {
                    best = next;
                    least = ground.steps[next];
                }
            }
            return best;
        }

        private static void barWays(Siege siege, int side, int goal) {
            Ground ground = siege.ground;
            for (int square = 0; square < ground.count && square < MOST_SQUARES; square++) {
                boolean isPit = ground.work[square] == DITCH || ground.work[square] == CRATER;
                boolean isBarred = ground.belongsTo(square) == 1 - side || (isPit && square != goal);
                ground.steps[square] = isBarred ? BARRED : NONE;
            }
            for (Company company : siege.companies) {
                if (company.men > 0 && company.side == 1 - side && ground.isOn(company.square)) {
                    ground.steps[company.square] = BARRED;
                }
            }
        }

        private static void measureWays(Ground ground, int goal) {
            if (!ground.isOn(goal)) {
                return;
            }
            ground.steps[goal] = 0;
            ground.queue[0] = goal;
            int filled = 1;
            for (int read = 0; read < filled && read < MOST_SQUARES; read++) {
                int here = ground.queue[read];
                for (int direction = 0; direction < 4; direction++) {
                    int next = ground.next(here, direction);
                    if (ground.isOn(next) && ground.isOn(here) && ground.steps[next] == NONE
                            && filled < MOST_SQUARES) {
                        ground.steps[next] = ground.steps[here] + 1;
                        ground.queue[filled] = next;
                        filled++;
                    }
                }
            }
        }

        private static void mend(Siege siege, Company company) {
            Ground ground = siege.ground;
            int goal = company.goal;
            if (!ground.isOn(goal) || company.side != GARRISON
                    || (goal != company.square && !ground.touches(company.square, goal))) {
                return;
            }
            if (ground.work[goal] == WALL && ground.firm[goal] < 60) {
                int firmer = ground.firm[goal] + company.men / 20;
                ground.firm[goal] = firmer > 60 ? 60 : firmer;
            }
            if (ground.work[goal] != BREACH || siege.isHeldBy(BESIEGERS, goal)) {
                return;
            }
            ground.toil[goal] += company.men / 10;
            if (ground.toil[goal] >= 80) {
                int higher = ground.height[goal] < 9 ? ground.height[goal] + 1 : 9;
                ground.shape(goal, higher, ground.soil[goal], WALL, 10);
            }
        }

        static boolean canAssault(Ground ground, int from, int goal) {
            int work = ground.workOf(goal);
            if (work == WALL || !ground.touches(from, goal)) {
                return false;
            }
            int own = ground.workOf(from);
            return work != DITCH || own == TRENCH || own == CRATER || own == DITCH;
        }

        static int attackOf(Siege siege, Company company) {
            int force = siege.forceOf(company);
            return siege.isNight() ? force * 5 / 4 : force;
        }

        static int defenceOf(Siege siege, int side, int goal) {
            int force = 0;
            boolean isGuarded = false;
            for (Company company : siege.companies) {
                if (company.isAt(side, goal)) {
                    force += siege.forceOf(company);
                    isGuarded = isGuarded || company.isOnGuard();
                }
            }
            int work = siege.ground.workOf(goal);
            if (work == TOWN || work == COVER) {
                force *= 3;
            } else if (work == BREACH || work == TRENCH) {
                force *= 2;
            }
            return isGuarded ? force * 3 / 2 : force;
        }

        private static void assault(Siege siege, Company company) {
            Ground ground = siege.ground;
            int goal = company.goal;
            int other = 1 - company.side;
            if (!ground.isOn(goal) || !canAssault(ground, company.square, goal)) {
                return;
            }
            if (siege.isHeldBy(other, goal)) {
                boolean wins = attackOf(siege, company) > defenceOf(siege, other, goal);
                siege.countFight(wins ? company.side : other);
                if (!wins) {
                    payForDefeat(siege, company, other);
                    return;
                }
                siege.takeMen(company, company.men / 8);
                putToFlight(siege, other, goal);
            }
            company.square = goal;
            company.restNow();
            for (Gun gun : siege.guns) {
                if (gun.isReadyOf(other) && gun.square == goal) {
                    gun.state = SPIKED;
                }
            }
            if (company.side == GARRISON && ground.work[goal] == TRENCH) {
                ground.work[goal] = PLAIN;
                siege.besiegers.gabions -= siege.besiegers.gabions / 2;
            }
        }

        private static void payForDefeat(Siege siege, Company company, int other) {
            for (Company defender : siege.companies) {
                if (defender.isAt(other, company.goal)) {
                    siege.takeMen(defender, defender.men / 8);
                }
            }
            siege.takeMen(company, quarterOf(company.men));
            company.restNow();
        }

        private static int quarterOf(int men) {
            return men < 8 ? 1 : men / 4;
        }

        private static void putToFlight(Siege siege, int side, int goal) {
            int refuge = refugeFrom(siege, side, goal);
            for (Company company : siege.companies) {
                if (!company.isAt(side, goal)) {
                    continue;
                }
                siege.takeMen(company, quarterOf(company.men));
                if (company.men == 0) {
                    continue;
                }
                if (refuge == NONE) {
                    siege.takeMen(company, company.men / 2);
                }
                company.square = refuge == NONE ? siege.homeOf(side) : refuge;
                company.restNow();
            }
        }

        private static int refugeFrom(Siege siege, int side, int goal) {
            for (int direction : BY_NUMBERS) {
                int square = siege.ground.next(goal, direction);
                if (square != NONE && siege.ground.belongsTo(square) == side
                        && !siege.isHeldBy(1 - side, square)) {
                    return square;
                }
            }
            return NONE;
        }
    }

    /** Part 5: what is done below ground. */
    private static final class Mining {
        static boolean isMouth(int side, int work) {
            if (side == BESIEGERS) {
                return work == TRENCH;
            }
            return work == WALL || work == TOWN || work == COVER;
        }

        static void advance(Siege siege, Mine mine) {
            if (!mine.isBegun() || mine.state != DUG || !siege.isHeldBy(mine.side, mine.mouth())) {
                return;
            }
            int next = siege.ground.next(mine.head(), mine.direction);
            int soil = siege.ground.soilOf(next);
            if (next == NONE || soil == MARSH || soil == ROCK || mine.length >= LONGEST_MINE) {
                mine.state = STOPPED;
                return;
            }
            mine.toil++;
            if (mine.toil >= (soil == CLAY ? 6 : 4)) {
                mine.goOn(next);
            }
        }

        static boolean isHeard(Siege siege, Mine mine) {
            if (!mine.isBegun() || mine.state != DUG || mine.length < 2) {
                return false;
            }
            int other = 1 - mine.side;
            int head = mine.head();
            for (Company company : siege.companies) {
                if (company.men > 0 && company.side == other && company.order != REST && company.order != MARCH
                        && siege.ground.far(company.square, head) <= 2) {
                    return true;
                }
            }
            for (Mine listener : siege.mines) {
                if (listener.side == other && listener.isWhole()
                        && siege.ground.far(listener.head(), head) <= 2) {
                    return true;
                }
            }
            return false;
        }

        private static int reachOf(Siege siege, Mine mine) {
            int reach = mine.charge < 8 ? 0 : mine.charge < 24 ? 1 : 2;
            return reach > 0 && siege.ground.heightOf(mine.head()) >= 3 ? reach - 1 : reach;
        }

        static int blowUp(Siege siege, Mine mine) {
            boolean isCamouflet = mine.charge <= 4;
            int reach = reachOf(siege, mine);
            int head = mine.head();
            mine.state = BLOWN;
            siege.of(mine.side).spent += mine.charge;
            crushOthers(siege, mine, isCamouflet ? 1 : reach);
            if (isCamouflet) {
                return 0;
            }
            int lost = 0;
            for (int square = 0; square < siege.ground.count; square++) {
                if (siege.ground.far(square, head) <= reach) {
                    lost += shake(siege, square, square == head);
                }
            }
            return lost;
        }

        private static void crushOthers(Siege siege, Mine mine, int reach) {
            int other = 1 - mine.side;
            for (Mine near : siege.mines) {
                if (near.side != other || !near.isWhole() || !comesNear(siege.ground, near, mine.head(), reach)) {
                    continue;
                }
                near.state = CRUSHED;
                siege.of(other).spent += near.charge;
                if (other == BESIEGERS) {
                    siege.besiegers.changeMorale(-3);
                }
            }
        }

        private static boolean comesNear(Ground ground, Mine mine, int square, int reach) {
            for (int i = 0; i < mine.length && i < LONGEST_MINE; i++) {
                if (ground.far(mine.squares[i], square) <= reach) {
                    return true;
                }
            }
            return false;
        }

        private static int shake(Siege siege, int square, boolean isHead) {
            int lost = 0;
            for (Company company : siege.companies) {
                if (company.isPlaced() && company.square == square) {
                    lost += siege.takeMen(company, company.men / 3);
                }
            }
            for (Gun gun : siege.guns) {
                if (gun.isPlaced() && gun.square == square && gun.state == READY) {
                    gun.state = DISMOUNTED;
                }
            }
            siege.batter(square, 30);
            if (isHead) {
                sink(siege.ground, square);
            }
            return lost;
        }

        private static void sink(Ground ground, int square) {
            if (!ground.isOn(square) || square == ground.camp || square == ground.gate) {
                return;
            }
            int work = ground.work[square];
            if (work == WALL || work == BREACH || work == TOWN || work == DITCH) {
                return;
            }
            ground.work[square] = CRATER;
            if (ground.height[square] > 0) {
                ground.height[square]--;
            }
        }
    }

    /** Parts 6 and 7: what comes at midnight. */
    private static final class Midnight {
        static void come(Siege siege) {
            eat(siege, BESIEGERS);
            fallSick(siege, BESIEGERS);
            desert(siege, BESIEGERS);
            bringSupply(siege);
            eat(siege, GARRISON);
            fallSick(siege, GARRISON);
            desert(siege, GARRISON);
            siege.garrison.changeMorale(-siege.ground.countOf(BREACH));
            siege.fires /= 2;
            boolean wasSetOut = siege.post.isSetOut;
            siege.post.swim(guardsOf(siege));
            comeNearer(siege, wasSetOut);
        }

        private static void eat(Siege siege, int side) {
            Side eater = siege.of(side);
            int eaten = siege.menOf(side) / 10 + (side == GARRISON ? siege.people / 20 : 0);
            if (eater.food >= eaten) {
                eater.food -= eaten;
                eater.hunger = 0;
            } else {
                eater.food = 0;
                eater.hunger++;
                eater.changeMorale(-6);
            }
        }

        private static void fallSick(Siege siege, int side) {
            Side ailing = siege.of(side);
            int common = ailing.hunger > 0 ? 2 : 1;
            if (side == GARRISON && siege.fires > 20) {
                common++;
            }
            for (Company company : siege.companies) {
                if (company.side != side) {
                    continue;
                }
                boolean isInMarsh = side == BESIEGERS && siege.ground.soilOf(company.square) == MARSH;
                int gone = company.men / 50 * (isInMarsh ? common + 1 : common);
                company.men -= gone;
                ailing.sick += gone;
            }
        }

        private static void desert(Siege siege, int side) {
            int morale = siege.of(side).morale;
            if (morale >= 40) {
                return;
            }
            for (Company company : siege.companies) {
                if (company.side == side) {
                    siege.takeMen(company, company.men * (40 - morale) / 400);
                }
            }
        }

        private static void bringSupply(Siege siege) {
            if (siege.post.isThere) {
                return;
            }
            siege.besiegers.powder += siege.supply;
            siege.besiegers.brought += siege.supply;
            siege.besiegers.food += siege.supply;
        }

        private static int guardsOf(Siege siege) {
            int guards = 0;
            for (Company company : siege.companies) {
                if (company.side == BESIEGERS && company.isOnGuard()) {
                    guards++;
                }
            }
            return guards;
        }

        private static void comeNearer(Siege siege, boolean wasSetOut) {
            Post post = siege.post;
            if (!post.isSetOut || post.isThere) {
                return;
            }
            if (wasSetOut) {
                post.loseDay();
            }
            if (post.days == 0) {
                post.isThere = true;
                siege.garrison.changeMorale(20);
                siege.besiegers.changeMorale(-15);
            }
        }
    }
}

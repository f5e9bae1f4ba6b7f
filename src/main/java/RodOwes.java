import java.util.Arrays;

/**
 * What the diviner's rod owes: a county in cells, a rod, owners who bore and owe.
 *
 * All rows are made with the object and used again, since every call of a run lives in one room.
 */
public final class RodOwes {
    public static final int BAD = -1, STATE = -2, FULL = -3, NONE = -4;

    private static final int MOST_CELLS = 16;
    private static final int OWNERS = 4;
    private static final int DEEPEST = 9;
    private static final int SURE_ODDS = 10;
    private static final int FULLEST_PURSE = 999;
    private static final int MOST_DEBTS = 8;
    private static final int DEAREST_DEBT = 99;
    private static final int STRONGEST_RAIN = 8;

    private static final int WATER_ROD = 0, IRON_ROD = 1, STEPS_ROD = 2, WISHES_ROD = 3, BOTH_ROD = 4;
    private static final int NATURES = 5;
    private static final int FARTHEST = 9;
    private static final int RODS = 2 * FARTHEST + 3;
    private static final int LAST_STEP = 9;
    private static final int MOST_SEEN = 8;
    private static final int MOST_WALKED = 6;

    private static final int MOST_PLANNED = 4;
    private static final int MOST_LUCK = 60;
    private static final int MOST_BEDS_OF_A_DEPTH = 48;
    private static final int IMAGES = 2;

    private static final int TAPE_BYTES = 160;
    private static final int LAST_BYTE = 127;

    private static final int SHEETS = 4;
    private static final int LANES = 3;
    private static final int LONGEST_SHEET = 40;
    private static final int MOST_READ = 13;
    private static final int NULL_FAULT = 1, INDEX_FAULT = 2, CAST_FAULT = 3, SIZE_FAULT = 4;

    private final County county = new County();
    /** A second county, for bores that are made by themselves and for those that may have to be undone. */
    private final County spare = new County();
    private final County[] images = new County[IMAGES];
    private final boolean[] kept = new boolean[IMAGES];
    private final Reader reader = new Reader();
    private final Tape tape = reader.tape;
    private final Walks walks = new Walks();
    private final Plans plans = new Plans();
    private final Beds allBeds = new Beds();
    private final Sheet[] sheets = new Sheet[SHEETS];
    private int tornFault;

    public RodOwes() {
        for (int k = 0; k < IMAGES; k++) {
            images[k] = new County();
        }
        for (int k = 0; k < SHEETS; k++) {
            sheets[k] = new Sheet();
        }
    }

    // ---- the text

    public int feed(int c) {
        if (c < 0 || c > LAST_BYTE) {
            return BAD;
        }
        if (tape.size >= TAPE_BYTES) {
            return FULL;
        }
        tape.bytes[tape.size] = (byte) c;
        tape.size++;
        return tape.size;
    }

    public int end(int n) {
        if (n < 0 || n > tape.size) {
            return BAD;
        }
        int had = tape.size;
        tape.size = n;
        return had;
    }

    public int text() {
        int answer = reader.readAll();
        tape.size = 0;
        if (answer >= 0) {
            county.copyFrom(reader.draft);
            for (int k = 0; k < IMAGES; k++) {
                kept[k] = false;
            }
        }
        return answer;
    }

    public int fault() {
        return reader.fault;
    }

    public int rule(int what) {
        switch (what) {
            case 0: return county.land.wide;
            case 1: return county.land.high;
            case 2: return county.land.cost;
            case 3: return county.land.price;
            case 4: return county.nature;
            case 5: return county.reach;
            case 6: return county.ledger.debts;
            default: return BAD;
        }
    }

    public int cell(int c, int what) {
        Land land = county.land;
        if (!land.has(c)) {
            return BAD;
        }
        switch (what) {
            case 0: return land.water[c];
            case 1: return land.iron[c];
            case 2: return land.odds[c];
            case 3: return land.claims[c];
            case 4: return land.bored[c];
            case 5: return oneIf(land.isWell(c));
            default: return BAD;
        }
    }

    public int purse(int o) {
        return isOwner(o) ? county.ledger.purses[o] : BAD;
    }

    // ---- what is changed

    public int wet(int c, int v) {
        Land land = county.land;
        if (!land.has(c) || v < 0 || v > DEEPEST) {
            return BAD;
        }
        if (land.bored[c] > 0) {
            return STATE;
        }
        int was = land.water[c];
        land.water[c] = v;
        return was;
    }

    public int iron(int c, boolean is) {
        Land land = county.land;
        if (!land.has(c)) {
            return BAD;
        }
        int was = land.iron[c];
        land.iron[c] = oneIf(is);
        return was;
    }

    public int odd(int c, int v) {
        Land land = county.land;
        if (!land.has(c) || v < 0 || v > SURE_ODDS) {
            return BAD;
        }
        int was = land.odds[c];
        land.odds[c] = v;
        return was;
    }

    public int claim(int c, int o) {
        Land land = county.land;
        if (!land.has(c) || o != NONE && !isOwner(o)) {
            return BAD;
        }
        int was = land.claims[c];
        land.claims[c] = o;
        return was;
    }

    public int fund(int o, int v) {
        if (!isOwner(o) || v < 0 || v > FULLEST_PURSE) {
            return BAD;
        }
        int was = county.ledger.purses[o];
        county.ledger.purses[o] = v;
        return was;
    }

    public int cut(int nature, int reach) {
        if (!isNature(nature) || reach < 1 || reach > FARTHEST) {
            return BAD;
        }
        int was = county.nature;
        county.nature = nature;
        county.reach = reach;
        return was;
    }

    public int owe(int a, int b, int v) {
        if (!isOwner(a) || !isOwner(b) || a == b || v < 1 || v > DEAREST_DEBT) {
            return BAD;
        }
        if (county.ledger.debts >= MOST_DEBTS) {
            return FULL;
        }
        county.ledger.addDebt(a, b, v);
        return county.ledger.debts;
    }

    public int pay(int n) {
        int had = county.ledger.debts;
        if (n < 0 || n > had) {
            return BAD;
        }
        county.ledger.debts = n;
        return had;
    }

    public int rain(int v) {
        if (v < 0 || v > STRONGEST_RAIN) {
            return BAD;
        }
        county.land.raiseWater(v);
        return county.land.wells();
    }

    // ---- the rod

    public int twitch(int c, int o, int step) {
        if (!isSight(c, o, step)) {
            return BAD;
        }
        return oneIf(county.twitches(c, o, step));
    }

    public int see(int c, int o, int step, boolean is) {
        if (!isSight(c, o, step)) {
            return BAD;
        }
        if (county.sights.size >= MOST_SEEN) {
            return FULL;
        }
        county.sights.add(c, o, step, oneIf(is));
        return county.sights.size;
    }

    public int forget(int n) {
        int had = county.sights.size;
        if (n < 0 || n > had) {
            return BAD;
        }
        county.sights.size = n;
        return had;
    }

    public int natures() {
        int fits = county.fittingRods();
        int bits = 0;
        for (int rod = 0; rod < RODS; rod++) {
            if ((fits >> rod & 1) != 0) {
                bits |= 1 << natureOf(rod);
            }
        }
        return bits;
    }

    public int reaches(int nature) {
        if (!isNature(nature)) {
            return BAD;
        }
        int fits = county.fittingRods();
        int bits = 0;
        for (int rod = 0; rod < RODS; rod++) {
            if ((fits >> rod & 1) != 0 && natureOf(rod) == nature) {
                bits |= reachBits(rod);
            }
        }
        return bits;
    }

    public int test(int o, int what) {
        if (!isOwner(o) || what != 0 && what != 1) {
            return BAD;
        }
        int fits = county.fittingRods();
        int now = Integer.bitCount(fits);
        int fewest = now;
        int where = NONE;
        for (int c = 0; c < county.land.cells(); c++) {
            for (int step = 1; step <= 2; step++) {
                int twitching = Integer.bitCount(fits & county.land.twitchingRods(c, o, step));
                int left = Math.max(twitching, now - twitching);
                if (left < fewest) {
                    fewest = left;
                    where = 10 * c + step;
                }
            }
        }
        return where == NONE || what == 0 ? where : fewest;
    }

    public int show(int c, int o, int n, int what) {
        if (!county.land.has(c) || !isOwner(o) || n < 1 || n > MOST_WALKED) {
            return BAD;
        }
        if (what != 0 && (what < 10 || what - 10 >= n)) {
            return BAD;
        }
        walks.find(county, c, o, n);
        return what == 0 ? walks.most(c) : walks.path[what - 10];
    }

    // ---- bores

    public int bore(int o, int c, int d) {
        return county.boreBy(o, c, d);
    }

    public long plan(int o, int d, int n, int what) {
        if (!isOwner(o) || !isDepth(d) || n < 0 || n > MOST_PLANNED) {
            return BAD;
        }
        if (what != 0 && what != 1 && what < 10) {
            return BAD;
        }
        plans.find(county.land, o, d, n);
        if (what == 0) {
            return plans.meanAbove();
        }
        if (what == 1) {
            return plans.meanBelow();
        }
        return what - 10 < plans.size ? plans.chosen[what - 10] : NONE;
    }

    // ---- beds

    public int beds(int what) {
        if (what < 0 || what > 3) {
            return BAD;
        }
        allBeds.find(county.land);
        if (what == 0) {
            return allBeds.fitting;
        }
        if (allBeds.fitting == 0) {
            return NONE;
        }
        switch (what) {
            case 1: return allBeds.wetByAll;
            case 2: return county.land.allBits() & ~allBeds.wetByOne;
            default: return allBeds.deepest;
        }
    }

    public int next(int d, int what) {
        if (!isDepth(d) || what != 0 && what != 1) {
            return BAD;
        }
        allBeds.find(county.land);
        int now = allBeds.fitting;
        int fewest = now;
        int where = NONE;
        for (int c = 0; c < county.land.cells(); c++) {
            if (county.land.bored[c] < d) {
                int wells = allBeds.fittingWithWell(c, d);
                int left = Math.max(wells, now - wells);
                if (left < fewest) {
                    fewest = left;
                    where = c;
                }
            }
        }
        return where == NONE || what == 0 ? where : fewest;
    }

    // ---- debts

    public int crash(int what) {
        if (what != 0 && what != 1 && (what < 10 || what - 10 >= OWNERS)) {
            return BAD;
        }
        int failed = 0;
        int rounds = 0;
        int his = NONE;
        for (int round = 1; round <= OWNERS; round++) {
            int fallen = county.ledger.failingAfter(failed) & ~failed;
            if (fallen != 0) {
                rounds = round;
                failed |= fallen;
                if (what >= 10 && (fallen >> (what - 10) & 1) != 0) {
                    his = round;
                }
            }
        }
        if (what >= 10) {
            return his;
        }
        return what == 0 ? failed : rounds;
    }

    public int save(int o) {
        if (!isOwner(o)) {
            return BAD;
        }
        // Nobody FAILS just if nobody does in the first round, and there his PURSE helps none but himself.
        if ((county.ledger.failingAfter(0) & ~(1 << o)) != 0) {
            return NONE;
        }
        return Math.max(0, county.ledger.lacking(o, 0));
    }

    // ---- by a seed

    public int luck(int seed, int n) {
        if (n < 1 || n > MOST_LUCK) {
            return BAD;
        }
        spare.copyFrom(county);
        Land land = spare.land;
        int cells = Math.max(1, land.cells());
        int state = seed;
        for (int i = 0; i < n; i++) {
            state = stirred(state);
            int c = drawnBits(state) % cells;
            state = stirred(state);
            int d = drawnBits(state) % DEEPEST + 1;
            land.bored[c] = Math.max(land.bored[c], d);
        }
        return land.wells();
    }

    // ---- images, sheets

    public int keep(int k) {
        if (k < 0 || k >= IMAGES) {
            return BAD;
        }
        int was = oneIf(kept[k]);
        images[k].copyFrom(county);
        kept[k] = true;
        return was;
    }

    public int back(int k) {
        if (k < 0 || k >= IMAGES) {
            return BAD;
        }
        if (!kept[k]) {
            return STATE;
        }
        county.copyFrom(images[k]);
        return county.land.wells();
    }

    public int sheet(int k, int lane, int n) {
        if (!isSheet(k) || !isLane(lane) || n > LONGEST_SHEET) {
            return BAD;
        }
        if (n < 0) {
            return -10 - SIZE_FAULT;
        }
        sheets[k].makeNew(lane, n);
        return 1;
    }

    public int lay(int k, int i, int v) {
        if (!isSheet(k)) {
            return BAD;
        }
        Sheet sheet = sheets[k];
        if (sheet.lane == Sheet.NOTHING) {
            return -10 - NULL_FAULT;
        }
        if (i < 0 || i >= sheet.size) {
            return -10 - INDEX_FAULT;
        }
        sheet.put(i, v);
        return 1;
    }

    public int read(int k, int lane, int f, int n) {
        if (!isSheet(k) || !isLane(lane) || n < 0 || n > MOST_READ) {
            return BAD;
        }
        Sheet sheet = sheets[k];
        int whole = sheet.wholeBores(lane, f, n);
        spare.copyFrom(county);
        for (int i = 0; i < whole; i++) {
            int at = f + 3 * i;
            if (county.boreBy(sheet.row[at], sheet.row[at + 1], sheet.row[at + 2]) < 0) {
                county.copyFrom(spare);
                return -20 - i;
            }
        }
        tornFault = sheet.readFault(lane, n, whole);
        return whole;
    }

    public int torn() {
        return tornFault;
    }

    public int count(int what) {
        switch (what) {
            case 0: return county.land.wells();
            case 1: return Integer.bitCount(county.land.boredBits(1));
            case 2: return county.sights.size;
            case 3: return oneIf(kept[0]) + oneIf(kept[1]);
            case 4: return tape.size;
            case 5: return sheets[0].lane == Sheet.NOTHING ? NONE : sheets[0].size;
            case 6: return county.ledger.allPurses();
            default: return BAD;
        }
    }

    // ---- what more than one of them asks

    private static int oneIf(boolean is) {
        return is ? 1 : 0;
    }

    private static boolean isOwner(int o) {
        return o >= 0 && o < OWNERS;
    }

    private static boolean isDepth(int d) {
        return d >= 1 && d <= DEEPEST;
    }

    private static boolean isNature(int nature) {
        return nature >= 0 && nature < NATURES;
    }

    private static boolean isSheet(int k) {
        return k >= 0 && k < SHEETS;
    }

    private static boolean isLane(int lane) {
        return lane >= 0 && lane < LANES;
    }

    private boolean isSight(int c, int o, int step) {
        return county.land.has(c) && isOwner(o) && step >= 1 && step <= LAST_STEP;
    }

    // RODS by numbers: 0 to 8 water, 9 to 17 both, each by its REACH; 18, 19, 20 iron, steps, wishes.

    private static int natureOf(int rod) {
        if (rod < FARTHEST) {
            return WATER_ROD;
        }
        return rod < 2 * FARTHEST ? BOTH_ROD : rod - 2 * FARTHEST + IRON_ROD;
    }

    private static int reachOf(int rod) {
        return rod % FARTHEST + 1;
    }

    private static int reachBits(int rod) {
        return rod < 2 * FARTHEST ? 1 << reachOf(rod) : (2 << FARTHEST) - 2;
    }

    private static int stirred(int seed) {
        return seed * 1103515245 + 12345;
    }

    private static int drawnBits(int seed) {
        return seed >>> 16 & 0x7FFF;
    }

    /** The CELLS, and what a BORE in them costs and brings. */
    private static final class Land {
        int wide;
        int high;
        int cost;
        int price;
        final int[] water = new int[MOST_CELLS];
        final int[] iron = new int[MOST_CELLS];
        final int[] odds = new int[MOST_CELLS];
        final int[] claims = new int[MOST_CELLS];
        final int[] bored = new int[MOST_CELLS];

        void reset() {
            wide = 3;
            high = 3;
            cost = 1;
            price = 10;
            Arrays.fill(water, 0);
            Arrays.fill(iron, 0);
            Arrays.fill(odds, 5);
            Arrays.fill(claims, NONE);
            Arrays.fill(bored, 0);
        }

        void copyFrom(Land other) {
            wide = other.wide;
            high = other.high;
            cost = other.cost;
            price = other.price;
            System.arraycopy(other.water, 0, water, 0, MOST_CELLS);
            System.arraycopy(other.iron, 0, iron, 0, MOST_CELLS);
            System.arraycopy(other.odds, 0, odds, 0, MOST_CELLS);
            System.arraycopy(other.claims, 0, claims, 0, MOST_CELLS);
            System.arraycopy(other.bored, 0, bored, 0, MOST_CELLS);
        }

        int cells() {
            return wide * high;
        }

        boolean has(int c) {
            return c >= 0 && c < cells();
        }

        int allBits() {
            return (1 << cells()) - 1;
        }

        boolean isWell(int c) {
            return water[c] > 0 && water[c] <= bored[c];
        }

        int wellBits() {
            int bits = 0;
            for (int c = 0; c < cells(); c++) {
                if (isWell(c)) {
                    bits |= 1 << c;
                }
            }
            return bits;
        }

        int wells() {
            return Integer.bitCount(wellBits());
        }

        /** The CELLS that were BORED to a depth d or deeper. */
        int boredBits(int d) {
            int bits = 0;
            for (int c = 0; c < cells(); c++) {
                if (bored[c] >= d) {
                    bits |= 1 << c;
                }
            }
            return bits;
        }

        void raiseWater(int v) {
            for (int c = 0; c < cells(); c++) {
                if (water[c] > 0) {
                    water[c] = Math.max(1, water[c] - v);
                }
            }
        }

        /** The CELL beside one, or -1; ways 0 to 3 are told so that their CELLS rise: north, west, east, south. */
        int beside(int c, int way) {
            if (!has(c)) {
                return -1;
            }
            int column = c % wide;
            switch (way) {
                case 0: return c >= wide ? c - wide : -1;
                case 1: return column > 0 ? c - 1 : -1;
                case 2: return column < wide - 1 ? c + 1 : -1;
                default: return has(c + wide) ? c + wide : -1;
            }
        }

        boolean twitches(int nature, int reach, int c, int o, int step) {
            boolean byWater = water[c] > 0 && water[c] <= reach;
            boolean byIron = iron[c] != 0;
            switch (nature) {
                case WATER_ROD: return byWater;
                case IRON_ROD: return byIron;
                case STEPS_ROD: return (step & 1) != 0;
                case WISHES_ROD: return claims[c] == o;
                default: return byWater || byIron;
            }
        }

        /** Which of all RODS would twitch there (bits). */
        int twitchingRods(int c, int o, int step) {
            int bits = 0;
            for (int rod = 0; rod < RODS; rod++) {
                if (twitches(natureOf(rod), reachOf(rod), c, o, step)) {
                    bits |= 1 << rod;
                }
            }
            return bits;
        }
    }

    /** PURSES and DEBTS. */
    private static final class Ledger {
        final int[] purses = new int[OWNERS];
        final int[] debtors = new int[MOST_DEBTS];
        final int[] creditors = new int[MOST_DEBTS];
        final int[] sums = new int[MOST_DEBTS];
        int debts;

        void reset() {
            Arrays.fill(purses, 0);
            debts = 0;
        }

        void copyFrom(Ledger other) {
            System.arraycopy(other.purses, 0, purses, 0, OWNERS);
            System.arraycopy(other.debtors, 0, debtors, 0, MOST_DEBTS);
            System.arraycopy(other.creditors, 0, creditors, 0, MOST_DEBTS);
            System.arraycopy(other.sums, 0, sums, 0, MOST_DEBTS);
            debts = other.debts;
        }

        void addDebt(int a, int b, int v) {
            if (debts < MOST_DEBTS) {
                debtors[debts] = a;
                creditors[debts] = b;
                sums[debts] = v;
                debts++;
            }
        }

        int allPurses() {
            int all = 0;
            for (int o = 0; o < OWNERS; o++) {
                all += purses[o];
            }
            return all;
        }

        /** How much an OWNER is short of all he owes, when those of the bits FAILED before; not above 0: nothing. */
        int lacking(int o, int failed) {
            int lack = -purses[o];
            for (int i = 0; i < debts; i++) {
                if (debtors[i] == o) {
                    lack += sums[i];
                }
                if (creditors[i] == o && (failed >> debtors[i] & 1) == 0) {
                    lack -= sums[i];
                }
            }
            return lack;
        }

        /** All OWNERS (bits) of whom it is so that they FAIL by those who FAILED before. */
        int failingAfter(int failed) {
            int bits = 0;
            for (int o = 0; o < OWNERS; o++) {
                if (lacking(o, failed) > 0) {
                    bits |= 1 << o;
                }
            }
            return bits;
        }
    }

    /** What was SEEN of THE ROD. */
    private static final class Sights {
        final int[] cells = new int[MOST_SEEN];
        final int[] walkers = new int[MOST_SEEN];
        final int[] steps = new int[MOST_SEEN];
        final int[] twitched = new int[MOST_SEEN];
        int size;

        void copyFrom(Sights other) {
            System.arraycopy(other.cells, 0, cells, 0, MOST_SEEN);
            System.arraycopy(other.walkers, 0, walkers, 0, MOST_SEEN);
            System.arraycopy(other.steps, 0, steps, 0, MOST_SEEN);
            System.arraycopy(other.twitched, 0, twitched, 0, MOST_SEEN);
            size = other.size;
        }

        void add(int c, int o, int step, int is) {
            if (size < MOST_SEEN) {
                cells[size] = c;
                walkers[size] = o;
                steps[size] = step;
                twitched[size] = is;
                size++;
            }
        }
    }

    /** All that a text tells and an IMAGE holds. */
    private static final class County {
        final Land land = new Land();
        final Ledger ledger = new Ledger();
        final Sights sights = new Sights();
        int nature;
        int reach;

        County() {
            reset();
        }

        void reset() {
            land.reset();
            ledger.reset();
            sights.size = 0;
            nature = WATER_ROD;
            reach = FARTHEST;
        }

        void copyFrom(County other) {
            land.copyFrom(other.land);
            ledger.copyFrom(other.ledger);
            sights.copyFrom(other.sights);
            nature = other.nature;
            reach = other.reach;
        }

        boolean twitches(int c, int o, int step) {
            return land.twitches(nature, reach, c, o, step);
        }

        /** The RODS by which all that was SEEN is so (bits). */
        int fittingRods() {
            int fits = (1 << RODS) - 1;
            for (int i = 0; i < sights.size; i++) {
                int twitching = land.twitchingRods(sights.cells[i], sights.walkers[i], sights.steps[i]);
                fits &= sights.twitched[i] != 0 ? twitching : ~twitching;
            }
            return fits;
        }

        int boreBy(int o, int c, int d) {
            if (!isOwner(o) || !land.has(c) || !isDepth(d)) {
                return BAD;
            }
            if (land.claims[c] != o) {
                return STATE;
            }
            boolean wasWell = land.isWell(c);
            int deeper = Math.max(land.bored[c], d);
            boolean becomesWell = !wasWell && land.water[c] > 0 && land.water[c] <= deeper;
            int paid = ledger.purses[o] - land.cost * (deeper - land.bored[c]);
            int left = becomesWell ? paid + land.price : paid;
            if (paid < 0 || left > FULLEST_PURSE) {
                return STATE;
            }
            ledger.purses[o] = left;
            land.bored[c] = deeper;
            return oneIf(wasWell || becomesWell);
        }
    }

    /** THE TAPE, and the TOKEN that was read of it last. */
    private static final class Tape {
        static final int END = 0, NAME = 1, NUMBER = 2, STOP = 3, NO_TOKEN = 4;

        final byte[] bytes = new byte[TAPE_BYTES];
        int size;
        int kind;
        int from;
        int to;
        int value;

        void rewind() {
            to = 0;
        }

        /** Reads the TOKEN behind the last one. */
        void advance() {
            from = to;
            while (from < size && bytes[from] == ' ') {
                from++;
            }
            to = from;
            if (from >= size) {
                kind = END;
            } else if (bytes[from] == ';') {
                kind = STOP;
                to = from + 1;
            } else if (isLetter(bytes[from])) {
                kind = NAME;
                passLetters();
            } else if (isFigure(bytes[from])) {
                passFigures();
                kind = to - from > 2 ? NO_TOKEN : NUMBER;
            } else {
                kind = NO_TOKEN;
            }
        }

        boolean isName(String name) {
            int length = name.length();
            if (kind != NAME || to - from != length) {
                return false;
            }
            for (int i = 0; i < length; i++) {
                if (bytes[from + i] != name.charAt(i)) {
                    return false;
                }
            }
            return true;
        }

        private void passLetters() {
            while (to < size && isLetter(bytes[to])) {
                to++;
            }
        }

        private void passFigures() {
            value = 0;
            while (to < size && isFigure(bytes[to])) {
                value = 10 * value + bytes[to] - '0';
                to++;
            }
        }

        private static boolean isLetter(int b) {
            return b >= 'a' && b <= 'z';
        }

        private static boolean isFigure(int b) {
            return b >= '0' && b <= '9';
        }
    }

    /** Reads THE TAPE into a draft, so that a text with a FAULT leaves what was told alone. */
    private static final class Reader {
        private static final int COUNTY = 0, WET = 1, IRON = 2, ODDS = 3, CLAIM = 4, PURSE = 5,
                COST = 6, PRICE = 7, ROD = 8, OWE = 9;
        private static final int LINES = 10;
        private static final int[] NUMBERS = {2, 2, 1, 2, 2, 2, 1, 1, 1, 3};
        // The bounds of a line's numbers, three places for each line.
        private static final int[] LEAST = {
            2, 2, 0,  0, 1, 0,  0, 0, 0,  0, 0, 0,  0, 0, 0,  0, 0, 0,  1, 0, 0,  1, 0, 0,  1, 0, 0,  0, 0, 1};
        private static final int[] MOST = {
            4, 4, 0,  15, 9, 0,  15, 0, 0,  15, 10, 0,  15, 3, 0,  3, 99, 0,  9, 0, 0,  99, 0, 0,  9, 0, 0,  3, 3, 99};

        final Tape tape = new Tape();
        final County draft = new County();
        private final int[] numbers = new int[3];
        /** For each line of which CELLS, OWNERS it was told (bits); bit 0 alone where it tells of neither. */
        private final int[] told = new int[LINES];
        private int toldNature;
        private int place;
        int fault;

        /** How many lines the draft was told by, or -10 less the place of the FAULT. */
        int readAll() {
            draft.reset();
            Arrays.fill(told, 0);
            fault = 0;
            tape.rewind();
            tape.advance();
            int lines = 0;
            while (lines < TAPE_BYTES && tape.kind != Tape.END && readLine()) {
                lines++;
                tape.advance();
            }
            if (fault == 0 && tellsBeyondCounty()) {
                isRefused(6, tape.size);
            }
            return fault == 0 ? lines : -10 - place;
        }

        private boolean tellsBeyondCounty() {
            int cells = told[WET] | told[IRON] | told[ODDS] | told[CLAIM];
            return (cells & ~draft.land.allBits()) != 0;
        }

        /** Notes a FAULT; false, so that readers can answer with it. */
        private boolean isRefused(int number, int where) {
            fault = number;
            place = where;
            return false;
        }

        /** Whether the TOKEN is of a kind; notes the FAULT if not. */
        private boolean isKind(int kind) {
            if (tape.kind == Tape.NO_TOKEN) {
                return isRefused(1, tape.from);
            }
            return tape.kind == kind || isRefused(2, tape.from);
        }

        private boolean readLine() {
            if (!isKind(Tape.NAME)) {
                return false;
            }
            int line = lineBegun();
            if (line < 0) {
                return isRefused(2, tape.from);
            }
            if (isOnceOnly(line) && told[line] != 0) {
                return isRefused(4, tape.from);
            }
            if (line == OWE && draft.ledger.debts >= MOST_DEBTS) {
                return isRefused(5, tape.from);
            }
            if (line == ROD && !readNature()) {
                return false;
            }
            for (int i = 0; i < NUMBERS[line]; i++) {
                if (!readNumber(line, i)) {
                    return false;
                }
            }
            tape.advance();
            if (!isKind(Tape.STOP)) {
                return false;
            }
            tellLine(line);
            return true;
        }

        private boolean readNature() {
            tape.advance();
            if (!isKind(Tape.NAME)) {
                return false;
            }
            toldNature = natureNamed();
            return toldNature >= 0 || isRefused(2, tape.from);
        }

        private boolean readNumber(int line, int i) {
            tape.advance();
            if (!isKind(Tape.NUMBER)) {
                return false;
            }
            int number = tape.value;
            if (number < LEAST[3 * line + i] || number > MOST[3 * line + i]) {
                return isRefused(3, tape.from);
            }
            numbers[i] = number;
            boolean twice = i == 0 && isOfOne(line) && (told[line] >> number & 1) != 0;
            boolean toHimself = i == 1 && line == OWE && number == numbers[0];
            return !twice && !toHimself || isRefused(4, tape.from);
        }

        private static boolean isOnceOnly(int line) {
            return line == COUNTY || line == COST || line == PRICE || line == ROD;
        }

        /** Whether a line tells of one CELL or OWNER, its first number. */
        private static boolean isOfOne(int line) {
            return line >= WET && line <= PURSE;
        }

        private void tellLine(int line) {
            Land land = draft.land;
            int first = numbers[0];
            int second = numbers[1];
            told[line] |= isOfOne(line) ? 1 << first : 1;
            switch (line) {
                case COUNTY: land.wide = first; land.high = second; break;
                case WET: land.water[first] = second; break;
                case IRON: land.iron[first] = 1; break;
                case ODDS: land.odds[first] = second; break;
                case CLAIM: land.claims[first] = second; break;
                case PURSE: draft.ledger.purses[first] = second; break;
                case COST: land.cost = first; break;
                case PRICE: land.price = first; break;
                case ROD: draft.nature = toldNature; draft.reach = first; break;
                default: draft.ledger.addDebt(first, second, numbers[2]); break;
            }
        }

        private int lineBegun() {
            for (int line = 0; line < LINES; line++) {
                if (tape.isName(lineName(line))) {
                    return line;
                }
            }
            return -1;
        }

        private int natureNamed() {
            for (int nature = 0; nature < NATURES; nature++) {
                if (tape.isName(natureName(nature))) {
                    return nature;
                }
            }
            return -1;
        }

        private static String lineName(int line) {
            switch (line) {
                case COUNTY: return "county";
                case WET: return "wet";
                case IRON: return "iron";
                case ODDS: return "odds";
                case CLAIM: return "claim";
                case PURSE: return "purse";
                case COST: return "cost";
                case PRICE: return "price";
                case ROD: return "rod";
                default: return "owe";
            }
        }

        private static String natureName(int nature) {
            switch (nature) {
                case WATER_ROD: return "water";
                case IRON_ROD: return "iron";
                case STEPS_ROD: return "steps";
                case WISHES_ROD: return "wishes";
                default: return "both";
            }
        }
    }

    /** The WALK that SHOWS most, found from its last STEP back. */
    private static final class Walks {
        /** By STEP (less 1) and CELL: the most that a walk SHOWS from there on to its end. */
        private final int[][] best = new int[MOST_WALKED][MOST_CELLS];
        final int[] path = new int[MOST_WALKED];

        void find(County county, int c, int o, int n) {
            for (int i = n - 1; i >= 0; i--) {
                for (int from = 0; from < county.land.cells(); from++) {
                    int to = i < n - 1 ? bestBeside(county.land, from, i + 1) : -1;
                    best[i][from] = shownIn(county, from, o, i + 1) + (to < 0 ? 0 : best[i + 1][to]);
                }
            }
            path[0] = c;
            for (int i = 1; i < n; i++) {
                path[i] = bestBeside(county.land, path[i - 1], i);
            }
        }

        int most(int c) {
            return 10 + best[0][c];
        }

        private static int shownIn(County county, int c, int o, int step) {
            int twitch = county.twitches(c, o, step) ? 2 : 0;
            return county.land.water[c] > 0 ? twitch - 1 : twitch;
        }

        /** Of the CELLS beside one that from which most is SHOWN, of several the least. */
        private int bestBeside(Land land, int c, int row) {
            int found = -1;
            for (int way = 0; way < 4; way++) {
                int to = land.beside(c, way);
                if (to >= 0 && (found < 0 || best[row][to] > best[row][found])) {
                    found = to;
                }
            }
            return found;
        }
    }

    /**
     * The best PLAN. A CELL behind others adds its ODDS of PRICE less one COST, by the odds that all ahead of it are
     * dry. All cost the same, so the likelier always goes first, and the first that adds nothing ends the PLAN.
     */
    private static final class Plans {
        private static final int MEAN_PARTS = 10000;

        final int[] chosen = new int[MOST_PLANNED];
        int size;
        /** In parts of MEAN_PARTS: with 4 CELLS in tenths it is whole. */
        private int mean;

        void find(Land land, int o, int d, int n) {
            size = 0;
            mean = 0;
            int taken = 0;
            int dry = 1;
            int parts = MEAN_PARTS / SURE_ODDS;
            boolean pays = true;
            for (int i = 0; i < n && pays; i++) {
                int c = likeliest(land, o, taken);
                int gain = c < 0 ? 0 : land.odds[c] * land.price - SURE_ODDS * land.cost * d;
                pays = gain > 0 && dry > 0;
                if (pays) {
                    taken |= 1 << c;
                    chosen[size] = c;
                    size++;
                    mean += dry * parts * gain;
                    dry *= SURE_ODDS - land.odds[c];
                    parts /= SURE_ODDS;
                }
            }
        }

        int meanAbove() {
            return mean / commonDivisor();
        }

        int meanBelow() {
            return MEAN_PARTS / commonDivisor();
        }

        private static int likeliest(Land land, int o, int taken) {
            int found = -1;
            for (int c = 0; c < land.cells(); c++) {
                boolean free = land.claims[c] == o && land.bored[c] == 0 && (taken >> c & 1) == 0;
                if (free && (found < 0 || land.odds[c] > land.odds[found])) {
                    found = c;
                }
            }
            return found;
        }

        /** Of the mean and MEAN_PARTS, 1 at least. */
        private int commonDivisor() {
            int a = MEAN_PARTS;
            int b = mean;
            for (int turn = 0; turn < 64 && b != 0; turn++) {
                int rest = a % b;
                a = b;
                b = rest;
            }
            return Math.max(1, a);
        }
    }

    /** The BEDS that FIT. */
    private static final class Beds {
        /** The rows of CELLS (bits) where a BED of any depth can run. */
        private final int[] rows = new int[MOST_BEDS_OF_A_DEPTH];
        private int size;
        /** By depth: the CELLS that were BORED so deep; what is found there is a WELL. */
        private final int[] reached = new int[DEEPEST + 1];
        private int wells;
        int fitting;
        int wetByAll;
        int wetByOne;
        int deepest;

        void find(Land land) {
            listRows(land);
            wells = land.wellBits();
            fitting = 0;
            wetByAll = land.allBits();
            wetByOne = 0;
            deepest = 0;
            for (int depth = 1; depth <= DEEPEST; depth++) {
                reached[depth] = land.boredBits(depth);
                for (int i = 0; i < size; i++) {
                    if (isFitting(rows[i], depth)) {
                        fitting++;
                        wetByAll &= rows[i];
                        wetByOne |= rows[i];
                        deepest = depth;
                    }
                }
            }
        }

        /** Of BEDS that FIT: by how many a CELL, BORED to a depth d, is a WELL. */
        int fittingWithWell(int c, int d) {
            int found = 0;
            for (int depth = 1; depth <= d; depth++) {
                for (int i = 0; i < size; i++) {
                    if ((rows[i] >> c & 1) != 0 && isFitting(rows[i], depth)) {
                        found++;
                    }
                }
            }
            return found;
        }

        private boolean isFitting(int row, int depth) {
            return (row & reached[depth]) == wells;
        }

        private void listRows(Land land) {
            size = 0;
            for (int y = 0; y < land.high; y++) {
                listRowsAlong(y * land.wide, 1, land.wide);
            }
            for (int x = 0; x < land.wide; x++) {
                listRowsAlong(x, land.wide, land.high);
            }
        }

        private void listRowsAlong(int first, int step, int length) {
            for (int from = 0; from < length; from++) {
                int row = 1 << (first + from * step);
                for (int to = from + 1; to < length; to++) {
                    row |= 1 << (first + to * step);
                    if (size < MOST_BEDS_OF_A_DEPTH) {
                        rows[size] = row;
                        size++;
                    }
                }
            }
        }
    }

    /** A row of one lane, or nothing; its CELLS hold what a row of that lane would. */
    private static final class Sheet {
        static final int NOTHING = -1, BYTES = 0, SHORTS = 1;

        final int[] row = new int[LONGEST_SHEET];
        int lane = NOTHING;
        int size;

        void makeNew(int newLane, int n) {
            Arrays.fill(row, 0);
            lane = newLane;
            size = n;
        }

        void put(int i, int v) {
            if (lane == BYTES) {
                row[i] = (byte) v;
            } else if (lane == SHORTS) {
                row[i] = (short) v;
            } else {
                row[i] = v;
            }
        }

        /** Of n BORES from CELL f on, taken as of a lane: how many have all three CELLS. */
        int wholeBores(int asLane, int f, int n) {
            if (lane != asLane || f < 0 || f >= size) {
                return 0;
            }
            return Math.min(n, (size - f) / 3);
        }

        /** Nothing can be taken as of any lane: that is found when its first CELL is read. */
        int readFault(int asLane, int n, int whole) {
            if (lane == NOTHING) {
                return n > 0 ? NULL_FAULT : 0;
            }
            if (lane != asLane) {
                return CAST_FAULT;
            }
            return whole < n ? INDEX_FAULT : 0;
        }
    }
}

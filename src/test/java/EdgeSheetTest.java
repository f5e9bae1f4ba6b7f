import java.math.BigInteger;
import java.util.function.Supplier;

/** Promises 31 to 38: a test for each sentence that names a boundary case. */
public final class EdgeSheetTest {
    private static final Edges edges = new Edges();

    public static void main(String[] args) {
        boundsOfLuck();
        theSeedWrapsAround();
        luckIsByItself();
        boreByBoreOfLuck();
        boundsOfKeepAndBack();
        stateThereIsNoImage();
        allIsAsTheImage();
        whoWasSeenInWhichStep();
        boundsOfSheet();
        size4Below0();
        aNewRowOfCells0();
        boundsOfLay();
        layInNothing();
        layAtAnIndex();
        itsLowestBits();
        boundsOfRead();
        theMachineFindsNull();
        theMachineFindsCast();
        theMachineFindsIndex();
        thoseThatWereWholeAheadCome();
        thirteenBores();
        readOfNoBore();
        aBoreThatIsRefused();
        theFirstMet();
        tornOfTheLatestReadThatCameToAnEnd();
        boundsOfCount();
        countsThatAreEmptyAndFull();
        calls512();
        edges.close("EdgeSheetTest");
    }

    // ---- by a seed

    private static void boundsOfLuck() {
        edges.bounds(Edges::rich, 1, 1, 60, "luck", 7, 1);
        for (int seed : new int[] {Integer.MIN_VALUE, -1, 0, 1, Integer.MAX_VALUE}) {
            edges.bounds(RodOwes::new, 1, 1, 60, "luck", seed, 1);
        }
    }

    private static BigInteger stirred(BigInteger seed) {
        BigInteger grown = seed.multiply(BigInteger.valueOf(1103515245)).add(BigInteger.valueOf(12345));
        return grown.mod(BigInteger.ONE.shiftLeft(32));
    }

    private static int drawn(BigInteger seed, int below) {
        return seed.shiftRight(16).mod(BigInteger.valueOf(32768)).mod(BigInteger.valueOf(below)).intValue();
    }

    /** By one bore: just one CELL becomes a WELL, if its WATER is no deeper than the bore. */
    private static void theSeedWrapsAround() {
        int[] seeds = {0, 1, -1, 2, 65535, 65536, 1 << 30, 1 << 31, Integer.MAX_VALUE, Integer.MIN_VALUE + 1, 123456789};
        for (int seed : seeds) {
            for (int wide = 2; wide <= 4; wide++) {
                int cells = wide * wide;
                BigInteger first = stirred(BigInteger.valueOf(seed));
                int c = drawn(first, cells);
                int d = drawn(stirred(first), 9) + 1;
                RodOwes x = Due.told("county " + wide + " " + wide + ";");
                for (int cell = 0; cell < cells; cell++) {
                    x.wet(cell, 1);
                    edges.answers(x, cell == c ? 1 : 0, "luck", seed, 1);
                    x.wet(cell, 0);
                }
                for (int depth = 1; depth <= 9; depth++) {
                    x.wet(c, depth);
                    edges.answers(x, depth <= d ? 1 : 0, "luck", seed, 1);
                }
            }
        }
    }

    private static void luckIsByItself() {
        edges.asks(RodOwes::new, 0, "luck", 1, 60);
        edges.same("luck changed nothing", Edges::rich, () -> {
            RodOwes x = Edges.rich();
            for (int n = 1; n <= 60; n++) {
                x.luck(n * 1000003, n);
            }
            return x;
        });
    }

    /** By n bores, with those of before: each CELL is BORED to the deepest of them. */
    private static void boreByBoreOfLuck() {
        for (int seed : new int[] {0, 77, -77, Integer.MAX_VALUE, Integer.MIN_VALUE}) {
            RodOwes x = Due.told("county 4 4;claim 0 0;claim 15 0;purse 0 20;");
            for (int c = 0; c < 16; c++) {
                x.wet(c, 1 + (c * 5 + 7) % 9);
            }
            x.bore(0, 15, 9);
            x.bore(0, 0, 1);
            int purses = x.count(6);
            int[] depth = new int[16];
            depth[15] = 9;
            depth[0] = 1;
            BigInteger state = BigInteger.valueOf(seed);
            for (int n = 1; n <= 60; n++) {
                state = stirred(state);
                int c = drawn(state, 16);
                state = stirred(state);
                depth[c] = Math.max(depth[c], drawn(state, 9) + 1);
                int wells = 0;
                for (int cell = 0; cell < 16; cell++) {
                    wells += x.cell(cell, 0) <= depth[cell] ? 1 : 0;
                }
                edges.answers(x, wells, "luck", seed, n);
            }
            edges.answers(x, purses, "count", 6);
            edges.answers(x, 2, "count", 1);
            edges.answers(x, 1, "count", 0);
        }
    }

    // ---- images

    private static void boundsOfKeepAndBack() {
        edges.bounds(Edges::rich, 0, 0, 1, "keep", 0);
        edges.bounds(Edges::rich, 0, 0, 1, "back", 0);
        edges.bounds(RodOwes::new, 0, 0, 1, "keep", 0);
        edges.bounds(RodOwes::new, 0, 0, 1, "back", 0);
    }

    private static void stateThereIsNoImage() {
        for (int k = 0; k < 2; k++) {
            edges.refused(RodOwes::new, RodOwes.STATE, "back", k);
            RodOwes x = new RodOwes();
            edges.answers(x, 0, "keep", k);
            edges.answers(x, RodOwes.STATE, "back", 1 - k);
            edges.answers(x, 1, "count", 3);
            edges.answers(x, 0, "back", k);
            edges.answers(x, 1, "keep", k);
            edges.answers(x, 1, "count", 3);
            edges.answers(x, 0, "keep", 1 - k);
            edges.answers(x, 2, "count", 3);
            Due.tell(x, "$");
            edges.answers(x, 2, "count", 3);
            Due.tell(x, "");
            edges.answers(x, 0, "count", 3);
            edges.answers(x, RodOwes.STATE, "back", k);
            edges.answers(x, 0, "keep", k);
        }
    }

    /** What comes behind keep() is gone by back(), but THE TAPE, its FAULT, the other IMAGE, SHEETS and torn(). */
    private static void allIsAsTheImage() {
        for (int k = 0; k < 2; k++) {
            int image = k;
            Supplier<RodOwes> kept = () -> {
                RodOwes x = Edges.rich();
                x.keep(image);
                return x;
            };
            edges.same("back(" + k + ") behind all changes", kept, () -> {
                RodOwes x = kept.get();
                changeAll(x);
                x.back(image);
                return x;
            });
            edges.same("back(" + k + ") at once", kept, () -> {
                RodOwes x = kept.get();
                x.back(image);
                return x;
            });
            edges.same("back(" + k + ") for the second time", kept, () -> {
                RodOwes x = kept.get();
                x.back(image);
                changeAll(x);
                x.back(image);
                return x;
            });
        }
        edges.answers(Edges.rich(), 1, "back", 0);
        RodOwes y = Edges.rich();
        y.rain(8);
        edges.answers(y, 2, "count", 0);
        edges.answers(y, 1, "back", 1);
    }

    /** An IMAGE has the walker and the STEP of what was SEEN, for each of the eight. */
    private static void whoWasSeenInWhichStep() {
        for (int at = 0; at < 8; at++) {
            RodOwes x = Due.told("claim 8 3;");
            RodOwes y = new RodOwes();
            for (int i = 0; i < 8; i++) {
                x.see(i == at ? 8 : 0, i == at ? 3 : 0, 2, i == at);
                y.see(0, 0, i == at ? 1 : 2, i == at);
            }
            seenIsKept(x, 8);
            seenIsKept(y, 4);
        }
    }

    private static void seenIsKept(RodOwes x, int natures) {
        edges.answers(x, natures, "natures");
        x.keep(0);
        x.forget(0);
        for (int i = 0; i < 8; i++) {
            x.see(i, 1, 9 - i, false);
        }
        x.back(0);
        edges.answers(x, natures, "natures");
    }

    private static void changeAll(RodOwes x) {
        x.fund(0, 100);
        x.bore(0, 0, 9);
        x.rain(1);
        x.wet(11, 9);
        x.iron(11, true);
        x.odd(11, 0);
        x.claim(0, 3);
        x.fund(3, 999);
        x.cut(1, 1);
        x.pay(1);
        x.owe(2, 1, 99);
        x.forget(1);
        x.see(11, 0, 1, true);
        x.see(11, 0, 1, true);
    }

    // ---- sheets

    private static void boundsOfSheet() {
        edges.bounds(Edges::rich, 0, 0, 3, "sheet", 0, 0, 5);
        edges.bounds(Edges::rich, 1, 0, 2, "sheet", 0, 0, 5);
        for (int k = 0; k < 4; k++) {
            for (int lane = 0; lane < 3; lane++) {
                RodOwes x = Edges.rich();
                edges.answers(x, 1, "sheet", k, lane, 40);
                edges.answers(x, 1, "lay", k, 39, 1);
                edges.answers(x, -12, "lay", k, 40, 1);
                edges.answers(x, 1, "sheet", k, lane, 0);
                edges.answers(x, -12, "lay", k, 0, 1);
                edges.refused(Edges::rich, RodOwes.BAD, "sheet", k, lane, 41);
                edges.refused(Edges::rich, RodOwes.BAD, "sheet", k, lane, Integer.MAX_VALUE);
            }
        }
    }

    private static void size4Below0() {
        for (int k = 0; k < 4; k++) {
            for (int lane = 0; lane < 3; lane++) {
                edges.refused(Edges::rich, -14, "sheet", k, lane, -1);
                edges.refused(Edges::rich, -14, "sheet", k, lane, Integer.MIN_VALUE);
            }
        }
        edges.refused(Edges::rich, RodOwes.BAD, "sheet", 4, 0, -1);
        edges.refused(Edges::rich, RodOwes.BAD, "sheet", -1, 0, -1);
        edges.refused(Edges::rich, RodOwes.BAD, "sheet", 0, 3, -1);
        edges.refused(Edges::rich, RodOwes.BAD, "sheet", 0, -1, -1);
    }

    private static RodOwes own() {
        return Due.told("county 4 4;claim 0 0;claim 5 1;claim 15 3;purse 0 99;purse 1 99;purse 3 99;");
    }

    private static void aNewRowOfCells0() {
        for (int lane = 0; lane < 3; lane++) {
            RodOwes x = own();
            Edges.lay(x, 0, lane, 0, 0, 5);
            edges.answers(x, 1, "read", 0, lane, 0, 1);
            edges.answers(x, 1, "sheet", 0, lane, 3);
            edges.answers(x, -20, "read", 0, lane, 0, 1);
            x.lay(0, 2, 7);
            // OWNER 0 and CELL 0 are left as they are: 0.
            edges.answers(x, 1, "read", 0, lane, 0, 1);
            edges.answers(x, 7, "cell", 0, 4);
            x.sheet(0, lane, 1);
            x.sheet(0, lane, 3);
            edges.answers(x, -20, "read", 0, lane, 0, 1);
        }
    }

    private static void boundsOfLay() {
        edges.bounds(Edges::rich, 0, 0, 3, "lay", 0, 0, 5);
        edges.refused(Edges::rich, RodOwes.BAD, "lay", 4, -1, 5);
        edges.refused(Edges::rich, RodOwes.BAD, "lay", -1, 40, 5);
    }

    private static void layInNothing() {
        for (int i : new int[] {Integer.MIN_VALUE, -1, 0, 39, 40, Integer.MAX_VALUE}) {
            edges.refused(Edges::rich, -11, "lay", 3, i, 5);
            edges.refused(RodOwes::new, -11, "lay", 0, i, 5);
        }
    }

    private static void layAtAnIndex() {
        int[] sizes = {9, 7, 4};
        for (int k = 0; k < 3; k++) {
            for (int i : new int[] {Integer.MIN_VALUE, -1, sizes[k], sizes[k] + 1, 39, 40, Integer.MAX_VALUE}) {
                edges.refused(Edges::rich, -12, "lay", k, i, 5);
            }
            edges.answers(Edges.rich(), 1, "lay", k, 0, 5);
            edges.answers(Edges.rich(), 1, "lay", k, sizes[k] - 1, 5);
        }
    }

    /** OWNER 1 bores in 5 to 2: what lies above the 8 bits of BYTES, the 16 of SHORTS is gone, INTS have all 32. */
    private static void itsLowestBits() {
        int[] bore = {1, 5, 2};
        int[] more = {0, 128, -128, 256, -256, 512, 32768, -32768, 65536, -65536, 1 << 24, 1 << 30, Integer.MIN_VALUE};
        for (int lane = 0; lane < 3; lane++) {
            for (int over : more) {
                boolean gone = over == 0 || lane == 0 && over % 256 == 0 || lane == 1 && over % 65536 == 0;
                for (int at = 0; at < 3; at++) {
                    int[] cells = bore.clone();
                    cells[at] += over;
                    RodOwes x = own();
                    Edges.lay(x, 3, lane, cells);
                    edges.answers(x, gone ? 1 : -20, "read", 3, lane, 0, 1);
                    edges.answers(x, gone ? 2 : 0, "cell", 5, 4);
                    edges.answers(x, gone ? 97 : 99, "purse", 1);
                }
            }
        }
    }

    // ---- read, torn

    private static void boundsOfRead() {
        for (int n : new int[] {0, 1}) {
            edges.bounds(Edges::rich, 0, 0, 3, "read", 0, 0, 0, n);
            edges.bounds(Edges::rich, 1, 0, 2, "read", 0, 0, 0, n);
        }
        for (int k = 0; k < 4; k++) {
            edges.bounds(Edges::rich, 3, 0, 13, "read", k, 0, 0, 1);
            edges.bounds(Edges::rich, 3, 0, 13, "read", k, 1, -1, 1);
        }
    }

    private static void read(RodOwes x, int k, int lane, int f, int n, int came, int fault) {
        edges.answers(x, came, "read", k, lane, f, n);
        edges.answers(x, fault, "torn");
    }

    private static void theMachineFindsNull() {
        for (int lane = 0; lane < 3; lane++) {
            for (int f : new int[] {Integer.MIN_VALUE, -1, 0, 40, Integer.MAX_VALUE}) {
                read(Edges.rich(), 3, lane, f, 1, 0, 1);
                read(Edges.rich(), 3, lane, f, 13, 0, 1);
                read(new RodOwes(), 0, lane, f, 1, 0, 1);
            }
        }
    }

    private static void theMachineFindsCast() {
        for (int is = 0; is < 3; is++) {
            for (int as = 0; as < 3; as++) {
                for (int f : new int[] {Integer.MIN_VALUE, -1, 0, 40, Integer.MAX_VALUE}) {
                    RodOwes x = own();
                    Edges.lay(x, 1, is, 0, 0, 1);
                    int fault = is != as ? 3 : f == 0 ? 0 : 2;
                    read(x, 1, as, f, 1, fault == 0 ? 1 : 0, fault);
                    edges.answers(x, fault == 0 ? 1 : 0, "count", 1);
                }
            }
        }
        // An empty SHEET of another lane.
        RodOwes y = own();
        y.sheet(1, 0, 0);
        read(y, 1, 1, 0, 1, 0, 3);
        read(y, 1, 0, 0, 1, 0, 2);
    }

    private static RodOwes withBores(int cells) {
        RodOwes x = own();
        x.sheet(0, 1, cells);
        for (int i = 0; i < cells; i++) {
            // OWNER 1 in CELL 5, deeper by the place.
            x.lay(0, i, i % 3 == 0 ? 1 : i % 3 == 1 ? 5 : 1 + i / 6);
        }
        return x;
    }

    private static void theMachineFindsIndex() {
        for (int f : new int[] {Integer.MIN_VALUE, Integer.MIN_VALUE + 1, -3, -2, -1, 39, 40, 41, Integer.MAX_VALUE - 2,
            Integer.MAX_VALUE - 1, Integer.MAX_VALUE}) {
            for (int n : new int[] {1, 2, 13}) {
                RodOwes x = withBores(40);
                read(x, 0, 1, f, n, 0, 2);
                edges.answers(x, 0, "count", 1);
            }
        }
        read(withBores(40), 0, 1, 36, 1, 1, 0);
        read(withBores(39), 0, 1, 36, 1, 1, 0);
        read(withBores(38), 0, 1, 36, 1, 0, 2);
        read(withBores(37), 0, 1, 36, 1, 0, 2);
        read(withBores(36), 0, 1, 36, 1, 0, 2);
        read(withBores(3), 0, 1, 0, 1, 1, 0);
        read(withBores(2), 0, 1, 0, 1, 0, 2);
        read(withBores(1), 0, 1, 0, 1, 0, 2);
        read(withBores(0), 0, 1, 0, 1, 0, 2);
    }

    private static void thoseThatWereWholeAheadCome() {
        for (int cells = 0; cells <= 40; cells++) {
            int whole = Math.min(13, cells / 3);
            RodOwes x = withBores(cells);
            read(x, 0, 1, 0, 13, whole, whole < 13 ? 2 : 0);
            int deepest = whole == 0 ? 0 : 1 + (3 * whole - 1) / 6;
            edges.answers(x, deepest, "cell", 5, 4);
            edges.answers(x, 99 - deepest, "purse", 1);
            RodOwes y = withBores(cells);
            read(y, 0, 1, 0, whole, whole, 0);
        }
    }

    private static void thirteenBores() {
        read(withBores(40), 0, 1, 0, 13, 13, 0);
        read(withBores(39), 0, 1, 0, 13, 13, 0);
        read(withBores(38), 0, 1, 0, 13, 12, 2);
        RodOwes x = withBores(40);
        for (int i = 0; i < 13; i++) {
            x.lay(0, 1 + 3 * i, 1);
            x.lay(0, 2 + 3 * i, 5);
            x.lay(0, 3 + 3 * i, 9);
        }
        read(x, 0, 1, 1, 13, 13, 0);
        RodOwes y = withBores(40);
        read(y, 0, 1, 3, 13, 12, 2);
    }

    private static void readOfNoBore() {
        for (int f : new int[] {Integer.MIN_VALUE, -1, 0, 40, Integer.MAX_VALUE}) {
            RodOwes x = Edges.rich();
            read(x, 0, 0, f, 0, 0, 0);
            edges.same("read(0, 0, " + f + ", 0)", Edges::rich, () -> {
                RodOwes y = Edges.rich();
                y.read(0, 0, f, 0);
                return y;
            }, "torn");
        }
        read(new RodOwes(), 0, 0, 0, 0, 0, 0);
        read(Edges.rich(), 0, 1, 0, 0, 0, 3);
    }

    /** In whichever way: bad numbers, another's CLAIM, a PURSE that is too small, a PURSE that would be too great. */
    private static void aBoreThatIsRefused() {
        int[][] bad = {{4, 0, 1}, {-1, 0, 1}, {0, 16, 1}, {0, -1, 1}, {0, 0, 0}, {0, 0, 10}, {1, 0, 1}, {0, 1, 1}, {3, 15, 9}};
        for (int[] bore : bad) {
            for (int ahead = 0; ahead <= 12; ahead += 4) {
                int count = ahead;
                edges.refused(() -> refusedBehind(count, bore), -20 - ahead, "read", 0, 2, 0, 13);
                edges.refused(() -> refusedBehind(count, bore), -20 - ahead, "read", 0, 2, 0, count + 1);
                read(refusedBehind(count, bore), 0, 2, 0, count, count, 0);
            }
        }
        Supplier<RodOwes> tooMuch = () -> {
            RodOwes x = refusedBehind(2, new int[] {1, 5, 1});
            x.wet(5, 1);
            x.fund(1, 991);
            return x;
        };
        edges.refused(tooMuch, -22, "read", 0, 2, 0, 3);
        edges.refused(tooMuch, -22, "read", 0, 2, 0, 13);
    }

    /** So many BORES that come, one that is refused, and then nothing but 0. OWNER 3 has 8. */
    private static RodOwes refusedBehind(int ahead, int... bore) {
        RodOwes x = own();
        x.fund(3, 8);
        x.sheet(0, 2, 39);
        for (int i = 0; i < ahead; i++) {
            x.lay(0, 3 * i + 2, 1 + i / 3);
        }
        for (int j = 0; j < 3; j++) {
            x.lay(0, 3 * ahead + j, bore[j]);
        }
        x.read(1, 0, 0, 1);
        return x;
    }

    /** A BORE that is whole and refused stands ahead of what the machine refuses; behind it nothing is read. */
    private static void theFirstMet() {
        Supplier<RodOwes> refusedThenTorn = () -> {
            RodOwes x = own();
            Edges.lay(x, 0, 0, 0, 0, 1, 0, 0, 10, 0);
            return x;
        };
        edges.refused(refusedThenTorn, -21, "read", 0, 0, 0, 3);
        edges.refused(refusedThenTorn, -21, "read", 0, 0, 0, 13);
        // Two that would be refused: the first.
        Supplier<RodOwes> two = () -> {
            RodOwes x = own();
            Edges.lay(x, 0, 0, 0, 0, 0, 4, 0, 1, 0, 0, 1);
            return x;
        };
        edges.refused(two, -20, "read", 0, 0, 0, 3);
        edges.refused(two, -20, "read", 0, 0, 3, 3);
        read(two.get(), 0, 0, 6, 1, 1, 0);
        // Not whole: the machine refuses it, not bore().
        RodOwes torn = own();
        Edges.lay(torn, 0, 0, 0, 0, 1, 9, 9);
        read(torn, 0, 0, 0, 2, 1, 2);
        // BAD stands ahead of all.
        edges.refused(two, RodOwes.BAD, "read", 0, 0, 0, 14);
        edges.refused(two, RodOwes.BAD, "read", 0, 3, 0, 1);
        edges.refused(two, RodOwes.BAD, "read", 4, 0, 0, 1);
    }

    private static void tornOfTheLatestReadThatCameToAnEnd() {
        RodOwes x = own();
        edges.answers(x, 0, "torn");
        Edges.lay(x, 0, 0, 0, 0, 1, 0, 0, 10);
        int[][] reads = {{1, 0, 0, 1, 1}, {0, 1, 0, 1, 3}, {0, 0, 4, 1, 2}, {0, 0, 0, 1, 0}, {0, 2, 0, 1, 3}};
        for (int[] r : reads) {
            read(x, r[0], r[1], r[2], r[3], r[4] == 0 ? 1 : 0, r[4]);
            // Refused, or no read at all: it stays.
            edges.answers(x, -21, "read", 0, 0, 0, 2);
            edges.answers(x, RodOwes.BAD, "read", 4, 0, 0, 2);
            edges.answers(x, -14, "sheet", 0, 0, -1);
            edges.answers(x, -12, "lay", 0, 6, 1);
            edges.answers(x, -11, "lay", 3, 0, 1);
            edges.answers(x, RodOwes.STATE, "bore", 1, 0, 1);
            edges.answers(x, r[4], "torn");
        }
    }

    // ---- count

    private static void boundsOfCount() {
        edges.bounds(RodOwes::new, 0, 0, 6, "count", 0);
        edges.bounds(Edges::rich, 0, 0, 6, "count", 0);
        int[] counts = {1, 2, 3, 2, 7, 9, 0};
        RodOwes x = Edges.rich();
        counts[6] = x.purse(0) + x.purse(1) + x.purse(2) + x.purse(3);
        for (int what = 0; what < counts.length; what++) {
            edges.asks(Edges::rich, counts[what], "count", what);
        }
    }

    private static void countsThatAreEmptyAndFull() {
        RodOwes x = Due.told("county 4 4;price 1;");
        for (int o = 0; o < 4; o++) {
            x.fund(o, 999);
        }
        edges.answers(x, 3996, "count", 6);
        for (int c = 0; c < 16; c++) {
            edges.answers(x, c, "count", 0);
            edges.answers(x, c, "count", 1);
            x.claim(c, c % 4);
            x.wet(c, 9);
            edges.answers(x, 1, "bore", c % 4, c, 9);
        }
        edges.answers(x, 16, "count", 0);
        edges.answers(x, 16, "count", 1);
        edges.answers(x, 3996 - 16 * 8, "count", 6);
        edges.answers(x, RodOwes.NONE, "count", 5);
        x.sheet(1, 0, 3);
        edges.answers(x, RodOwes.NONE, "count", 5);
        x.sheet(0, 0, 0);
        edges.answers(x, 0, "count", 5);
        x.sheet(0, 2, 40);
        edges.answers(x, 40, "count", 5);
        edges.asks(Edges::fullTape, 160, "count", 4);
        edges.asks(Edges::fullOfSeen, 8, "count", 2);
    }

    /** An object answers as promised up to its 512th call. */
    private static void calls512() {
        RodOwes x = new RodOwes();
        for (int i = 0; i < 160; i++) {
            x.feed(32);
        }
        x.text();
        for (int i = 0; i < 16; i++) {
            x.wet(i % 9, 1 + i % 9);
        }
        for (int call = 178; call < 512; call++) {
            edges.is("call " + call, x.show(4, 0, 6, 10), 4);
        }
        edges.answers(x, 162, "beds", 0);
    }
}

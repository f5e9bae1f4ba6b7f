/** Promises 31 to 38: bores by a seed, images, sheets, counts. */
public final class SheetTest {
    private static final Due due = new Due();

    public static void main(String[] args) {
        luck();
        images();
        sheet();
        lay();
        read();
        readOfNone();
        readRefused();
        count();
        due.close("SheetTest");
    }

    private static void luck() {
        RodOwes x = Due.told("wet 0 1;wet 1 1;wet 2 1;wet 3 1;wet 4 1;wet 5 1;wet 6 1;wet 7 1;wet 8 1;claim 0 0;purse 0 1;");
        due.is("luck(1, 0)", x.luck(1, 0), RodOwes.BAD);
        due.is("luck(1, 61)", x.luck(1, 61), RodOwes.BAD);
        due.is("luck(1, 1)", x.luck(1, 1), 1);
        due.is("nothing was bored", x.count(1), 0);
        due.is("nobody paid", x.purse(0), 1);
        for (int seed : new int[] {0, 1, -1, 42, Integer.MAX_VALUE, Integer.MIN_VALUE}) {
            for (int n = 1; n <= 60; n++) {
                due.is("luck(" + seed + ", " + n + ")", x.luck(seed, n), wellsByHand(x, seed, n));
            }
        }
        x.bore(0, 0, 1);
        due.is("those of before, too", x.luck(7, 3), wellsByHand(x, 7, 3));
    }

    /** By BigInteger's like: the seed in a long, cut to 32 bits. */
    private static int wellsByHand(RodOwes x, int seed, int n) {
        int cells = x.rule(0) * x.rule(1);
        int[] depth = new int[cells];
        for (int c = 0; c < cells; c++) {
            depth[c] = x.cell(c, 4);
        }
        long s = seed & 0xFFFFFFFFL;
        for (int i = 0; i < n; i++) {
            s = (s * 1103515245L + 12345L) & 0xFFFFFFFFL;
            int c = (int) (s / 65536 % 32768 % cells);
            s = (s * 1103515245L + 12345L) & 0xFFFFFFFFL;
            depth[c] = Math.max(depth[c], (int) (s / 65536 % 32768 % 9) + 1);
        }
        int wells = 0;
        for (int c = 0; c < cells; c++) {
            wells += x.cell(c, 0) > 0 && x.cell(c, 0) <= depth[c] ? 1 : 0;
        }
        return wells;
    }

    private static void images() {
        RodOwes x = Due.told("wet 0 2;claim 0 0;purse 0 9;rod iron 3;owe 0 1 5;");
        due.is("back(0) of none", x.back(0), RodOwes.STATE);
        due.is("back(2)", x.back(2), RodOwes.BAD);
        due.is("back(-1)", x.back(-1), RodOwes.BAD);
        due.is("keep(2)", x.keep(2), RodOwes.BAD);
        due.is("keep(-1)", x.keep(-1), RodOwes.BAD);
        x.see(0, 0, 1, true);
        due.is("keep(1)", x.keep(1), 0);
        due.is("back(0) still none", x.back(0), RodOwes.STATE);
        x.bore(0, 0, 2);
        x.cut(4, 1);
        x.pay(0);
        x.forget(0);
        x.iron(3, true);
        x.odd(3, 1);
        x.claim(0, 2);
        due.is("keep(0)", x.keep(0), 0);
        due.is("count(3)", x.count(3), 2);
        due.is("back(1)", x.back(1), 0);
        due.is("bored", x.cell(0, 4), 0);
        due.is("purse", x.purse(0), 9);
        due.is("nature", x.rule(4), 1);
        due.is("reach", x.rule(5), 3);
        due.is("debts", x.rule(6), 1);
        due.is("seen", x.count(2), 1);
        due.is("iron", x.cell(3, 1), 0);
        due.is("odds", x.cell(3, 2), 5);
        due.is("claim", x.cell(0, 3), 0);
        due.is("back(0)", x.back(0), 1);
        due.is("bored then", x.cell(0, 4), 2);
        due.is("purse then", x.purse(0), 17);
        due.is("keep(1) again", x.keep(1), 1);
        x.fund(0, 0);
        due.is("back(1) again", x.back(1), 1);
        due.is("the image stays whole", x.purse(0), 17);
    }

    private static void sheet() {
        RodOwes x = new RodOwes();
        due.is("sheet(4, 0, 1)", x.sheet(4, 0, 1), RodOwes.BAD);
        due.is("sheet(-1, 0, 1)", x.sheet(-1, 0, 1), RodOwes.BAD);
        due.is("sheet(0, 3, 1)", x.sheet(0, 3, 1), RodOwes.BAD);
        due.is("sheet(0, -1, 1)", x.sheet(0, -1, 1), RodOwes.BAD);
        due.is("sheet(0, 0, 41)", x.sheet(0, 0, 41), RodOwes.BAD);
        due.is("sheet(0, 0, -1)", x.sheet(0, 0, -1), -14);
        due.is("sheet(0, 3, -1)", x.sheet(0, 3, -1), RodOwes.BAD);
        due.is("nothing still", x.count(5), RodOwes.NONE);
        due.is("sheet(0, 0, 40)", x.sheet(0, 0, 40), 1);
        due.is("count(5)", x.count(5), 40);
        due.is("sheet(0, 0, MIN)", x.sheet(0, 0, Integer.MIN_VALUE), -14);
        due.is("count(5) still", x.count(5), 40);
        due.is("sheet(0, 2, 0)", x.sheet(0, 2, 0), 1);
        due.is("count(5) of an empty one", x.count(5), 0);
        due.is("torn() is of read() alone", x.torn(), 0);
    }

    private static void lay() {
        RodOwes x = Due.told("claim 4 1;purse 1 99;");
        due.is("nothing", x.lay(3, -1, 1), -11);
        due.is("lay(4)", x.lay(4, 0, 1), RodOwes.BAD);
        due.is("lay(-1)", x.lay(-1, 0, 1), RodOwes.BAD);
        for (int lane = 0; lane < 3; lane++) {
            x.sheet(3, lane, 3);
            due.is("index -1", x.lay(3, -1, 1), -12);
            due.is("index 3", x.lay(3, 3, 1), -12);
            due.is("index MAX", x.lay(3, Integer.MAX_VALUE, 1), -12);
            int over = lane == 0 ? 256 : 65536;
            due.is("owner", x.lay(3, 0, lane == 2 ? 1 : 1 + over), 1);
            due.is("cell", x.lay(3, 1, lane == 2 ? 4 : 4 - over), 1);
            due.is("depth", x.lay(3, 2, lane == 2 ? 2 : 2 + 5 * over), 1);
            due.is("its lowest bits, lane " + lane, x.read(3, lane, 0, 1), 1);
            x.lay(3, 2, 1 + 256);
            due.is("the ninth bit, lane " + lane, x.read(3, lane, 0, 1), lane == 0 ? 1 : -20);
            x.lay(3, 2, 1 + 65536);
            due.is("the 17th bit, lane " + lane, x.read(3, lane, 0, 1), lane < 2 ? 1 : -20);
            x.lay(3, 2, 2);
            x.sheet(3, lane, 3);
            due.is("a new row is 0", x.read(3, lane, 0, 1), -20);
        }
        due.is("bored", x.cell(4, 4), 2);
        due.is("an empty sheet", x.sheet(3, 1, 0), 1);
        due.is("index 0 of it", x.lay(3, 0, 0), -12);
    }

    private static void layBores(RodOwes x, int k, int from, int... values) {
        for (int i = 0; i < values.length; i++) {
            x.lay(k, from + i, values[i]);
        }
    }

    private static void read() {
        RodOwes x = Due.told("wet 1 2;claim 1 1;claim 2 3;purse 1 2;purse 3 9;");
        x.sheet(2, 1, 8);
        layBores(x, 2, 0, 1, 1, 2, 3, 2, 4, 1, 1);
        due.is("read(4)", x.read(4, 0, 0, 1), RodOwes.BAD);
        due.is("read(-1)", x.read(-1, 0, 0, 1), RodOwes.BAD);
        due.is("lane 3", x.read(2, 3, 0, 1), RodOwes.BAD);
        due.is("lane -1", x.read(2, -1, 0, 1), RodOwes.BAD);
        due.is("n 14", x.read(2, 1, 0, 14), RodOwes.BAD);
        due.is("n -1", x.read(2, 1, 0, -1), RodOwes.BAD);
        due.is("another lane", x.read(2, 0, 0, 1), 0);
        due.is("cast", x.torn(), 3);
        due.is("bad leaves torn()", x.read(2, 1, 0, 14), RodOwes.BAD);
        due.is("cast still", x.torn(), 3);
        due.is("two bores, the third is torn", x.read(2, 1, 0, 13), 2);
        due.is("index", x.torn(), 2);
        due.is("paid and gained", x.purse(1), 10);
        due.is("paid", x.purse(3), 5);
        due.is("as a bore by bore()", x.cell(2, 4), 4);
        due.is("whole", x.read(2, 1, 3, 1), 1);
        due.is("no fault", x.torn(), 0);
        due.is("f -1", x.read(2, 1, -1, 1), 0);
        due.is("f -1: index", x.torn(), 2);
        due.is("f MIN", x.read(2, 1, Integer.MIN_VALUE, 13), 0);
        due.is("f 8, n 0", x.read(2, 1, 8, 0), 0);
        due.is("f 8, n 0: none", x.torn(), 0);
        due.is("f MAX", x.read(2, 1, Integer.MAX_VALUE, 13), 0);
        due.is("f MAX: index", x.torn(), 2);
        due.is("f 6: two of three", x.read(2, 1, 6, 1), 0);
        due.is("nothing", x.read(0, 1, -1, 1), 0);
        due.is("null", x.torn(), 1);
    }

    private static void readOfNone() {
        RodOwes x = new RodOwes();
        due.is("no bore of nothing", x.read(0, 1, 0, 0), 0);
        due.is("nothing is taken as of any lane", x.torn(), 0);
        x.sheet(0, 0, 3);
        due.is("no bore of another lane", x.read(0, 1, 0, 0), 0);
        due.is("it can not be taken so", x.torn(), 3);
        due.is("no bore", x.read(0, 0, -5, 0), 0);
        due.is("no cell was read", x.torn(), 0);
    }

    private static void readRefused() {
        RodOwes x = Due.told("wet 1 2;claim 1 1;claim 2 1;purse 1 4;price 1;");
        x.sheet(1, 0, 10);
        layBores(x, 1, 0, 1, 1, 2, 1, 2, 3, 1, 1, 10, 9);
        x.read(0, 0, 0, 1);
        due.is("bore 2 is bad", x.read(1, 0, 0, 4), -22);
        due.is("then none came", x.count(1), 0);
        due.is("nobody paid", x.purse(1), 4);
        due.is("torn() is of the one before", x.torn(), 1);
        due.is("two of them", x.read(1, 0, 0, 2), 2);
        due.is("purse", x.purse(1), 0);
        layBores(x, 1, 6, 1, 2, 4);
        due.is("bore 2 can not be paid", x.read(1, 0, 0, 3), -22);
        due.is("bore 0 can not be paid", x.read(1, 0, 6, 2), -20);
        layBores(x, 1, 0, 255);
        due.is("bytes have a sign", x.read(1, 0, 0, 1), -20);
        RodOwes y = Due.told("wet 1 2;claim 1 1;claim 2 1;purse 1 2;price 9;");
        y.sheet(0, 2, 6);
        layBores(y, 0, 0, 1, 1, 2, 1, 2, 9);
        due.is("the price of one pays the next", y.read(0, 2, 0, 2), 2);
        due.is("purse of y", y.purse(1), 0);
    }

    private static void count() {
        RodOwes x = Due.told("wet 1 2;wet 2 3;claim 1 1;claim 2 1;purse 1 40;purse 3 50;");
        x.bore(1, 1, 2);
        x.bore(1, 2, 2);
        x.see(0, 0, 1, false);
        x.keep(1);
        x.feed(65);
        x.sheet(0, 0, 7);
        int[] want = {1, 2, 1, 1, 1, 7, 96};
        for (int what = 0; what < want.length; what++) {
            due.is("count(" + what + ")", x.count(what), want[what]);
        }
        due.is("count(-1)", x.count(-1), RodOwes.BAD);
        due.is("count(7)", x.count(7), RodOwes.BAD);
    }
}

/** Promises 18 to 24: the rod. */
public final class RodTest {
    private static final Due due = new Due();

    public static void main(String[] args) {
        twitch();
        see();
        forget();
        natures();
        test();
        show();
        showTies();
        due.close("RodTest");
    }

    private static void twitch() {
        RodOwes x = Due.told("wet 0 4;wet 1 5;iron 1;iron 2;claim 3 2;");
        int[][] want = {{1, 0, 0, 0}, {0, 1, 1, 0}, {1, 1, 1, 1}, {0, 0, 0, 1}, {1, 1, 1, 0}};
        for (int nature = 0; nature < 5; nature++) {
            x.cut(nature, 4);
            for (int c = 0; c < 4; c++) {
                due.is("nature " + nature + ", cell " + c, x.twitch(c, 2, 1), want[nature][c]);
            }
        }
        x.cut(2, 1);
        due.is("steps 2", x.twitch(0, 0, 2), 0);
        due.is("steps 9", x.twitch(0, 0, 9), 1);
        x.cut(3, 1);
        due.is("another's claim", x.twitch(3, 1, 1), 0);
        due.is("nobody's claim", x.twitch(4, 0, 1), 0);
        due.is("twitch(9, 0, 1)", x.twitch(9, 0, 1), RodOwes.BAD);
        due.is("twitch(0, 4, 1)", x.twitch(0, 4, 1), RodOwes.BAD);
        due.is("twitch(0, NONE, 1)", x.twitch(0, RodOwes.NONE, 1), RodOwes.BAD);
        due.is("twitch(0, 0, 0)", x.twitch(0, 0, 0), RodOwes.BAD);
        due.is("twitch(0, 0, 10)", x.twitch(0, 0, 10), RodOwes.BAD);
    }

    private static void see() {
        RodOwes x = new RodOwes();
        due.is("see(9, 0, 1)", x.see(9, 0, 1, true), RodOwes.BAD);
        due.is("see(0, 4, 1)", x.see(0, 4, 1, true), RodOwes.BAD);
        due.is("see(0, 0, 0)", x.see(0, 0, 0, true), RodOwes.BAD);
        due.is("see(0, 0, 10)", x.see(0, 0, 10, true), RodOwes.BAD);
        for (int i = 1; i <= 8; i++) {
            due.is("seen " + i, x.see(0, 0, 2, false), i);
        }
        due.is("seen 9", x.see(0, 0, 2, false), RodOwes.FULL);
        due.is("seen 9, bad first", x.see(0, 0, 10, false), RodOwes.BAD);
        due.is("count(2)", x.count(2), 8);
        due.is("all fit", x.natures(), 31);
    }

    private static void forget() {
        RodOwes x = new RodOwes();
        x.see(0, 0, 1, true);
        due.is("steps alone", x.natures(), 4);
        x.see(0, 0, 1, false);
        due.is("none", x.natures(), 0);
        due.is("forget(3)", x.forget(3), RodOwes.BAD);
        due.is("forget(-1)", x.forget(-1), RodOwes.BAD);
        due.is("forget(1)", x.forget(1), 2);
        due.is("the first stays", x.natures(), 4);
        due.is("forget(0)", x.forget(0), 1);
        due.is("all", x.natures(), 31);
    }

    private static void natures() {
        RodOwes x = Due.told("wet 0 4;iron 1;claim 2 1;");
        for (int nature = 0; nature < 5; nature++) {
            due.is("reaches(" + nature + ") of all", x.reaches(nature), 1022);
        }
        due.is("reaches(5)", x.reaches(5), RodOwes.BAD);
        due.is("reaches(-1)", x.reaches(-1), RodOwes.BAD);
        x.see(0, 0, 2, true);
        due.is("natures by water", x.natures(), 17);
        due.is("reaches(0)", x.reaches(0), 1008);
        due.is("reaches(4)", x.reaches(4), 1008);
        due.is("reaches(1)", x.reaches(1), 0);
        x.see(1, 0, 2, false);
        due.is("natures without iron", x.natures(), 1);
        due.is("reaches(4) then", x.reaches(4), 0);
        x.wet(0, 6);
        due.is("the county as it is now", x.reaches(0), 960);
        x.forget(0);
        x.see(2, 1, 2, true);
        due.is("wishes", x.natures(), 8);
        due.is("reaches(3)", x.reaches(3), 1022);
        due.is("reaches(2)", x.reaches(2), 0);
    }

    private static void test() {
        RodOwes x = new RodOwes();
        due.is("test(4, 0)", x.test(4, 0), RodOwes.BAD);
        due.is("test(0, 2)", x.test(0, 2), RodOwes.BAD);
        due.is("test(0, -1)", x.test(0, -1), RodOwes.BAD);
        due.is("steps by step 1", x.test(0, 0), 1);
        due.is("20 are left", x.test(0, 1), 20);
        x.wet(5, 5);
        // In STEP 2 of cell 5: water and both with REACH 5 to 9 twitch, 10 of 21; in STEP 1 also steps.
        due.is("cell 5, step 1", x.test(0, 0), 51);
        due.is("11 are left", x.test(0, 1), 11);
        x.claim(5, 2);
        due.is("another walker", x.test(0, 0), 51);
        due.is("the walker's own claim", x.test(2, 0), 52);
        due.is("11 are left, too", x.test(2, 1), 11);
        x.see(0, 0, 1, true);
        due.is("one rod alone", x.test(0, 0), RodOwes.NONE);
        due.is("one rod alone (1)", x.test(0, 1), RodOwes.NONE);
        x.see(0, 0, 1, false);
        due.is("no rod", x.test(0, 0), RodOwes.NONE);
    }

    private static void show() {
        RodOwes x = Due.told("county 2 2;wet 0 1;wet 1 9;iron 3;rod water 1;");
        due.is("one step", x.show(0, 0, 1, 0), 11);
        due.is("one step on the deep", x.show(1, 0, 1, 0), 9);
        due.is("dry", x.show(2, 0, 1, 0), 10);
        due.is("six steps", x.show(0, 0, 6, 0), 13);
        int[] path = {0, 2, 0, 2, 0, 2};
        for (int i = 0; i < 6; i++) {
            due.is("step " + i, x.show(0, 0, 6, 10 + i), path[i]);
        }
        due.is("what 16", x.show(0, 0, 6, 16), RodOwes.BAD);
        due.is("i no less than n", x.show(0, 0, 2, 12), RodOwes.BAD);
        due.is("what 1", x.show(0, 0, 2, 1), RodOwes.BAD);
        due.is("what 9", x.show(0, 0, 2, 9), RodOwes.BAD);
        due.is("what -1", x.show(0, 0, 2, -1), RodOwes.BAD);
        due.is("n 0", x.show(0, 0, 0, 0), RodOwes.BAD);
        due.is("n 7", x.show(0, 0, 7, 0), RodOwes.BAD);
        due.is("no cell", x.show(4, 0, 1, 0), RodOwes.BAD);
        due.is("no walker", x.show(0, 4, 1, 0), RodOwes.BAD);
    }

    private static void showTies() {
        RodOwes x = Due.told("rod steps 1;");
        due.is("steps 1, 3, 5", x.show(4, 0, 6, 0), 16);
        int[] path = {4, 1, 0, 1, 0, 1};
        for (int i = 0; i < 6; i++) {
            due.is("ties " + i, x.show(4, 0, 6, 10 + i), path[i]);
        }
        due.is("in a corner", x.show(8, 0, 2, 11), 5);
        x.cut(3, 1);
        x.claim(7, 2);
        due.is("towards the walker's own", x.show(4, 2, 2, 11), 7);
        due.is("not for another", x.show(4, 1, 2, 11), 1);
        x.wet(1, 1);
        due.is("around water", x.show(4, 1, 2, 11), 3);
        due.is("through water", x.show(0, 2, 6, 0), 14);
    }
}

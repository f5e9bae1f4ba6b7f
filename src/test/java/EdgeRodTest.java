import java.util.function.Supplier;

/** Promises 18 to 24: a test for each sentence that names a boundary case. */
public final class EdgeRodTest {
    private static final Edges edges = new Edges();

    public static void main(String[] args) {
        waterNoDeeperThanReach();
        whereIronIs();
        inOddSteps();
        whereTheClaimIsTheWalkersOwn();
        boundsOfTwitch();
        boundsOfSee();
        seen8();
        seenAreTheFirstAlone();
        naturesOfNothingSeenAndOfNone();
        naturesByOneReach();
        reachesOfAWaterRod();
        reachesOfABothRod();
        reachesOfNatures123AreAllOrNone();
        boundsOfTest();
        testFewestAtTheWorst();
        testFewerThanNow();
        testOfSeveralTheLeast();
        boundsOfShow();
        showLeastAndMost();
        less1InACellWithWater();
        theWalkStaysInTheCounty();
        theWalkAsOftenAsMayBe();
        ofSeveralWalksTheFirstByCells();
        edges.close("EdgeRodTest");
    }

    private static RodOwes widest() {
        return Due.told("county 4 4;");
    }

    // ---- natures of a rod

    private static void waterNoDeeperThanReach() {
        RodOwes x = new RodOwes();
        for (int depth = 0; depth <= 9; depth++) {
            x.wet(8, depth);
            for (int reach = 1; reach <= 9; reach++) {
                int wanted = depth >= 1 && depth <= reach ? 1 : 0;
                x.cut(0, reach);
                edges.answers(x, wanted, "twitch", 8, 0, 2);
                x.cut(4, reach);
                edges.answers(x, wanted, "twitch", 8, 0, 2);
                x.cut(1, reach);
                edges.answers(x, 0, "twitch", 8, 0, 2);
            }
        }
    }

    private static void whereIronIs() {
        RodOwes x = Due.told("iron 0;iron 8;wet 8 9;");
        x.cut(1, 1);
        edges.answers(x, 1, "twitch", 0, 0, 2);
        edges.answers(x, 1, "twitch", 8, 0, 2);
        edges.answers(x, 0, "twitch", 7, 0, 1);
        x.cut(4, 1);
        edges.answers(x, 1, "twitch", 0, 0, 2);
        edges.answers(x, 1, "twitch", 8, 0, 2);
        x.cut(0, 9);
        edges.answers(x, 0, "twitch", 0, 0, 2);
        edges.answers(x, 1, "twitch", 8, 0, 2);
        x.iron(8, false);
        x.cut(4, 8);
        edges.answers(x, 0, "twitch", 8, 0, 1);
    }

    private static void inOddSteps() {
        RodOwes x = new RodOwes();
        x.cut(2, 1);
        for (int step = 1; step <= 9; step++) {
            edges.answers(x, step % 2, "twitch", 0, 0, step);
            edges.answers(x, step % 2, "twitch", 8, 3, step);
        }
    }

    private static void whereTheClaimIsTheWalkersOwn() {
        RodOwes x = new RodOwes();
        x.cut(3, 1);
        for (int claim = -1; claim < 4; claim++) {
            x.claim(8, claim < 0 ? RodOwes.NONE : claim);
            for (int walker = 0; walker < 4; walker++) {
                edges.answers(x, claim == walker ? 1 : 0, "twitch", 8, walker, 2);
            }
        }
    }

    private static void boundsOfTwitch() {
        edges.bounds(Edges::rich, 0, 0, 11, "twitch", 0, 0, 1);
        edges.bounds(EdgeRodTest::widest, 0, 0, 15, "twitch", 0, 0, 1);
        edges.bounds(Edges::rich, 1, 0, 3, "twitch", 0, 0, 1);
        edges.bounds(Edges::rich, 2, 1, 9, "twitch", 0, 0, 1);
        edges.refused(Edges::rich, RodOwes.BAD, "twitch", 0, RodOwes.NONE, 1);
        edges.asks(Edges::rich, 1, "twitch", 0, 0, 1);
        edges.asks(Edges::rich, 0, "twitch", 11, 3, 9);
    }

    // ---- what was seen

    private static void boundsOfSee() {
        edges.bounds(Edges::rich, 0, 0, 11, "see", 0, 0, 1, true);
        edges.bounds(EdgeRodTest::widest, 0, 0, 15, "see", 0, 0, 1, true);
        edges.bounds(Edges::rich, 1, 0, 3, "see", 0, 0, 1, false);
        edges.bounds(Edges::rich, 2, 1, 9, "see", 0, 0, 1, false);
        edges.refused(Edges::rich, RodOwes.BAD, "see", 0, RodOwes.NONE, 1, true);
    }

    private static void seen8() {
        RodOwes x = new RodOwes();
        for (int i = 1; i <= 8; i++) {
            edges.answers(x, i, "see", 0, 0, 2, false);
            edges.answers(x, i, "count", 2);
        }
        edges.answers(x, RodOwes.FULL, "see", 0, 0, 2, true);
        edges.answers(x, 31, "natures");
        for (boolean is : new boolean[] {true, false}) {
            edges.refused(Edges::fullOfSeen, RodOwes.FULL, "see", 0, 0, 1, is);
            edges.refused(Edges::fullOfSeen, RodOwes.BAD, "see", 12, 0, 1, is);
            edges.refused(Edges::fullOfSeen, RodOwes.BAD, "see", 0, 4, 1, is);
            edges.refused(Edges::fullOfSeen, RodOwes.BAD, "see", 0, 0, 0, is);
            edges.refused(Edges::fullOfSeen, RodOwes.BAD, "see", 0, 0, 10, is);
        }
        x.forget(7);
        edges.answers(x, 8, "see", 0, 0, 1, true);
        edges.answers(x, 4, "natures");
    }

    private static void seenAreTheFirstAlone() {
        edges.bounds(RodOwes::new, 0, 0, 0, "forget", 0);
        edges.bounds(Edges::rich, 0, 0, 3, "forget", 0);
        edges.bounds(Edges::fullOfSeen, 0, 0, 8, "forget", 0);
        edges.asks(RodOwes::new, 0, "forget", 0);
        edges.asks(Edges::rich, 3, "forget", 3);
        edges.asks(Edges::fullOfSeen, 8, "forget", 8);
        RodOwes x = new RodOwes();
        x.see(0, 0, 1, true);
        x.see(0, 0, 1, false);
        edges.answers(x, 0, "natures");
        edges.answers(x, 2, "forget", 1);
        edges.answers(x, 4, "natures");
        edges.answers(x, 1, "forget", 0);
        edges.answers(x, 0, "count", 2);
        edges.answers(x, 31, "natures");
        edges.answers(x, 1, "see", 0, 0, 1, false);
        edges.answers(x, 27, "natures");
    }

    private static void naturesOfNothingSeenAndOfNone() {
        edges.asks(RodOwes::new, 31, "natures");
        RodOwes x = Due.told("wet 0 9;iron 1;claim 2 3;");
        for (int c = 0; c < 3; c++) {
            x.forget(0);
            x.see(c, 3, 2, true);
            edges.answers(x, new int[] {17, 18, 8}[c], "natures");
        }
        x.see(0, 0, 2, true);
        edges.answers(x, 0, "natures");
        for (int nature = 0; nature <= 4; nature++) {
            edges.answers(x, 0, "reaches", nature);
        }
    }

    /** It twitches by r yards, not by r and 1: one REACH alone is left. */
    private static void naturesByOneReach() {
        for (int r = 1; r <= 9; r++) {
            RodOwes x = new RodOwes();
            x.iron(8, true);
            x.wet(0, r);
            x.see(0, 0, 2, true);
            if (r < 9) {
                x.wet(1, r + 1);
                x.see(1, 0, 2, false);
            }
            edges.answers(x, 17, "natures");
            edges.answers(x, 1 << r, "reaches", 0);
            edges.answers(x, 1 << r, "reaches", 4);
            x.see(8, 0, 2, false);
            edges.answers(x, 1, "natures");
            edges.answers(x, 1 << r, "reaches", 0);
            edges.answers(x, 0, "reaches", 4);
            x.forget(x.count(2) - 1);
            x.see(8, 0, 2, true);
            edges.answers(x, 16, "natures");
            edges.answers(x, 0, "reaches", 0);
            edges.answers(x, 1 << r, "reaches", 4);
        }
    }

    private static RodOwes seenInDepth(int depth, boolean is) {
        RodOwes x = new RodOwes();
        x.wet(4, depth);
        x.see(4, 0, 2, is);
        return x;
    }

    private static void reachesOfAWaterRod() {
        for (int depth = 1; depth <= 9; depth++) {
            int from = 1022 & -(1 << depth);
            edges.answers(seenInDepth(depth, true), from, "reaches", 0);
            edges.answers(seenInDepth(depth, false), 1022 & ~from, "reaches", 0);
        }
        edges.answers(seenInDepth(0, true), 0, "reaches", 0);
        edges.answers(seenInDepth(0, false), 1022, "reaches", 0);
        edges.bounds(Edges::rich, 0, 0, 4, "reaches", 0);
    }

    private static void reachesOfABothRod() {
        for (int depth = 0; depth <= 9; depth++) {
            int from = depth == 0 ? 0 : 1022 & -(1 << depth);
            edges.answers(seenInDepth(depth, true), from, "reaches", 4);
            edges.answers(seenInDepth(depth, false), 1022 & ~from, "reaches", 4);
            RodOwes x = seenInDepth(depth, true);
            x.iron(4, true);
            edges.answers(x, 1022, "reaches", 4);
            x = seenInDepth(depth, false);
            x.iron(4, true);
            edges.answers(x, 0, "reaches", 4);
        }
    }

    private static void reachesOfNatures123AreAllOrNone() {
        RodOwes x = Due.told("iron 0;claim 1 2;");
        int[][] sights = {{0, 2, 2}, {8, 2, 1}, {1, 2, 2}};
        for (int nature = 1; nature <= 3; nature++) {
            for (int i = 0; i < sights.length; i++) {
                for (boolean is : new boolean[] {true, false}) {
                    x.forget(0);
                    x.see(sights[i][0], sights[i][1], sights[i][2], is);
                    edges.answers(x, (i + 1 == nature) == is ? 1022 : 0, "reaches", nature);
                }
            }
        }
    }

    // ---- the next test

    private static void boundsOfTest() {
        edges.bounds(Edges::rich, 0, 0, 3, "test", 0, 0);
        edges.bounds(Edges::rich, 1, 0, 1, "test", 0, 0);
        edges.bounds(EdgeRodTest::noRodFits, 0, 0, 3, "test", 0, 0);
        edges.bounds(EdgeRodTest::noRodFits, 1, 0, 1, "test", 0, 1);
    }

    private static RodOwes noRodFits() {
        RodOwes x = Due.told("wet 0 5;iron 1;");
        x.see(0, 0, 1, true);
        x.see(0, 0, 1, false);
        return x;
    }

    private static void testFewestAtTheWorst() {
        // Of 21 RODS steps alone twitch in STEP 1 of a county with nothing.
        edges.asks(EdgeRodTest::widest, 1, "test", 0, 0);
        edges.asks(EdgeRodTest::widest, 20, "test", 0, 1);
        // Depth 5: water and both by REACH 5 to 9, in STEP 1 steps too, 11 of 21; in the walker's own CELL wishes too.
        Supplier<RodOwes> last = () -> Due.told("county 4 4;wet 15 5;claim 15 2;");
        edges.asks(last, 151, "test", 0, 0);
        edges.asks(last, 11, "test", 0, 1);
        edges.asks(last, 152, "test", 2, 0);
        edges.asks(last, 11, "test", 2, 1);
    }

    private static void testFewerThanNow() {
        edges.asks(EdgeRodTest::noRodFits, RodOwes.NONE, "test", 0, 0);
        edges.asks(EdgeRodTest::noRodFits, RodOwes.NONE, "test", 0, 1);
        RodOwes one = new RodOwes();
        one.see(0, 0, 1, true);
        edges.answers(one, RodOwes.NONE, "test", 0, 0);
        edges.answers(one, RodOwes.NONE, "test", 0, 1);
        // Water by REACH 9 or both by REACH 9: nothing but iron can tell them.
        RodOwes two = Due.told("wet 0 8;wet 1 9;");
        two.see(0, 0, 2, true);
        two.see(1, 0, 2, true);
        edges.answers(two, RodOwes.NONE, "test", 0, 0);
        edges.answers(two, RodOwes.NONE, "test", 3, 1);
        two.iron(8, true);
        edges.answers(two, 81, "test", 0, 0);
        edges.answers(two, 1, "test", 0, 1);
    }

    private static void testOfSeveralTheLeast() {
        RodOwes x = Due.told("county 4 4;wet 15 5;wet 14 5;");
        edges.answers(x, 141, "test", 0, 0);
        x.wet(0, 5);
        edges.answers(x, 1, "test", 0, 0);
        x.see(1, 0, 1, false);
        // Steps is out: STEPS 1 and 2 tell the same, 10 of 20.
        edges.answers(x, 1, "test", 0, 0);
        edges.answers(x, 10, "test", 0, 1);
    }

    // ---- the walk

    private static void boundsOfShow() {
        edges.bounds(Edges::rich, 0, 0, 11, "show", 0, 0, 1, 0);
        edges.bounds(EdgeRodTest::widest, 0, 0, 15, "show", 0, 0, 1, 0);
        edges.bounds(Edges::rich, 1, 0, 3, "show", 0, 0, 1, 0);
        edges.bounds(Edges::rich, 2, 1, 6, "show", 0, 0, 1, 0);
        for (int n = 1; n <= 6; n++) {
            edges.bounds(Edges::rich, 3, 10, 9 + n, "show", 0, 0, n, 0);
            edges.bounds(Edges::rich, 3, 0, 0, "show", 0, 0, n, 0);
            edges.refused(Edges::rich, RodOwes.BAD, "show", 0, 0, n, 16);
        }
        for (int c = 0; c < 12; c++) {
            edges.asks(Edges::rich, c, "show", c, 3, 1, 10);
        }
    }

    private static RodOwes everywhere(boolean water, boolean iron) {
        RodOwes x = widest();
        for (int c = 0; c < 16; c++) {
            x.wet(c, water ? 9 : 0);
            x.iron(c, iron);
        }
        return x;
    }

    private static void showLeastAndMost() {
        for (int n = 1; n <= 6; n++) {
            RodOwes dry = everywhere(false, false);
            edges.answers(dry, 10, "show", 0, 0, n, 0);
            RodOwes wet = everywhere(true, false);
            wet.cut(1, 9);
            edges.answers(wet, 10 - n, "show", 15, 0, n, 0);
            wet.cut(0, 8);
            edges.answers(wet, 10 - n, "show", 15, 0, n, 0);
            wet.cut(0, 9);
            edges.answers(wet, 10 + n, "show", 15, 0, n, 0);
            RodOwes iron = everywhere(false, true);
            iron.cut(4, 1);
            edges.answers(iron, 10 + 2 * n, "show", 5, 0, n, 0);
            iron.cut(2, 1);
            edges.answers(iron, 10 + (n + 1) / 2 * 2, "show", 5, 0, n, 0);
        }
    }

    private static void less1InACellWithWater() {
        for (int depth = 0; depth <= 9; depth++) {
            RodOwes x = new RodOwes();
            x.cut(1, 1);
            x.wet(4, depth);
            edges.answers(x, depth > 0 ? 9 : 10, "show", 4, 0, 1, 0);
            edges.answers(x, depth > 0 ? 9 : 10, "show", 4, 0, 2, 0);
            edges.answers(x, 10, "show", 0, 0, 6, 0);
            x.iron(4, true);
            edges.answers(x, depth > 0 ? 11 : 12, "show", 4, 0, 1, 0);
        }
    }

    /** A CELL beside it lies in its row or column: the end of a row is not beside the begin of the next. */
    private static void theWalkStaysInTheCounty() {
        for (int wide = 2; wide <= 4; wide++) {
            for (int high = 2; high <= 4; high++) {
                RodOwes x = Due.told("county " + wide + " " + high + ";rod wishes 1;");
                for (int from = 0; from < wide * high; from++) {
                    for (int to = 0; to < wide * high; to++) {
                        x.claim(to, 3);
                        int apart = Math.abs(from % wide - to % wide) + Math.abs(from / wide - to / wide);
                        int own = from == to ? 12 : apart == 1 ? 12 : 10;
                        edges.is(wide + " by " + high + ": from " + from + " to " + to, x.show(from, 3, 2, 0), own);
                        x.claim(to, RodOwes.NONE);
                    }
                }
            }
        }
    }

    private static void theWalkAsOftenAsMayBe() {
        RodOwes x = Due.told("county 2 2;iron 0;iron 1;rod iron 1;");
        edges.answers(x, 22, "show", 0, 0, 6, 0);
        for (int i = 0; i < 6; i++) {
            edges.answers(x, i % 2, "show", 0, 0, 6, 10 + i);
        }
        // Two CELLS with IRON that are three STEPS apart: back and forth beside the first one is more.
        RodOwes y = Due.told("county 4 4;iron 0;iron 3;rod iron 1;");
        edges.answers(y, 16, "show", 0, 0, 6, 0);
        edges.answers(y, 0, "show", 0, 0, 6, 14);
        edges.answers(y, 1, "show", 0, 0, 6, 15);
    }

    private static void ofSeveralWalksTheFirstByCells() {
        RodOwes x = widest();
        int[] fromMiddle = {5, 1, 0, 1, 0, 1};
        int[] fromLast = {15, 11, 7, 3, 2, 1};
        for (int i = 0; i < 6; i++) {
            edges.answers(x, fromMiddle[i], "show", 5, 0, 6, 10 + i);
            edges.answers(x, fromLast[i], "show", 15, 0, 6, 10 + i);
        }
        edges.answers(x, 2, "show", 3, 0, 2, 11);
        edges.answers(x, 8, "show", 12, 0, 2, 11);
        x.iron(9, true);
        x.cut(1, 1);
        edges.answers(x, 9, "show", 5, 0, 2, 11);
        // From 4 two ways lead to the iron: by 5 and by 8.
        edges.answers(x, 5, "show", 4, 0, 3, 11);
    }
}

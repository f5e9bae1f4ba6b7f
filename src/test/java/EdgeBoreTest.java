import java.util.function.Supplier;

/** Promises 25 and 26: a test for each sentence that names a boundary case. */
public final class EdgeBoreTest {
    private static final Edges edges = new Edges();

    public static void main(String[] args) {
        boundsOfBore();
        stateItIsNotHisClaim();
        stateHeCanNotPayIt();
        stateMoreThan999();
        badBeforeState();
        yardsThatWereNotBoredYet();
        waterNoDeeperThanItWasBored();
        paidWhenItBecomesOne();
        boundsOfPlan();
        aPlanOfNone();
        notSoMany();
        aMeanThatIsNotAbove0();
        oddsOf0And10();
        inLowestTerms();
        theDearestAndTheCheapest();
        cellsThatWereNotBored();
        cellsOfHisClaim();
        ofSeveralTheShortestThenTheFirstByCells();
        aPlanAsksNoPurse();
        edges.close("EdgeBoreTest");
    }

    // ---- bore

    private static void boundsOfBore() {
        edges.bounds(Edges::rich, 0, 0, 3, "bore", 0, 0, 3);
        edges.bounds(Edges::rich, 1, 0, 11, "bore", 0, 0, 3);
        edges.bounds(() -> Due.told("county 4 4;"), 1, 0, 15, "bore", 0, 0, 3);
        edges.bounds(() -> Due.told("county 2 2;"), 1, 0, 3, "bore", 0, 0, 3);
        edges.bounds(Edges::rich, 2, 1, 9, "bore", 0, 0, 3);
        RodOwes x = Due.told("county 4 4;claim 0 0;claim 15 3;purse 0 9;purse 3 9;");
        edges.answers(x, 0, "bore", 0, 0, 1);
        edges.answers(x, 0, "bore", 3, 15, 9);
        edges.answers(x, 1, "cell", 0, 4);
        edges.answers(x, 9, "cell", 15, 4);
        edges.answers(x, 2, "count", 1);
    }

    private static void stateItIsNotHisClaim() {
        for (int o = 1; o < 4; o++) {
            edges.refused(Edges::rich, RodOwes.STATE, "bore", o, 0, 1);
        }
        for (int o = 0; o < 4; o++) {
            edges.refused(Edges::rich, RodOwes.STATE, "bore", o, 4, 1);
        }
        edges.refused(Edges::rich, RodOwes.BAD, "bore", RodOwes.NONE, 4, 1);
        RodOwes x = Due.told("claim 4 0;purse 0 9;purse 1 9;");
        edges.answers(x, 0, "bore", 0, 4, 1);
        x.claim(4, 1);
        edges.answers(x, RodOwes.STATE, "bore", 0, 4, 2);
        edges.answers(x, 0, "bore", 1, 4, 2);
        edges.answers(x, 8, "purse", 1);
    }

    private static RodOwes withPurse(String text, int purse) {
        RodOwes x = Due.told("claim 0 0;" + text);
        x.fund(0, purse);
        return x;
    }

    private static void stateHeCanNotPayIt() {
        for (int cost = 1; cost <= 9; cost += 4) {
            for (int depth = 1; depth <= 9; depth++) {
                int due = cost * depth;
                String text = "cost " + cost + ";wet 0 " + depth + ";price 99;";
                edges.answers(withPurse(text, due), 1, "bore", 0, 0, depth);
                int d = depth;
                edges.refused(() -> withPurse(text, due - 1), RodOwes.STATE, "bore", 0, 0, d);
            }
        }
        RodOwes x = withPurse("cost 9;", 81);
        edges.answers(x, 0, "bore", 0, 0, 9);
        edges.answers(x, 0, "purse", 0);
        edges.answers(x, 0, "bore", 0, 0, 9);
        edges.answers(x, 0, "bore", 0, 0, 1);
        edges.answers(x, 0, "purse", 0);
    }

    private static void stateMoreThan999() {
        String text = "wet 0 2;price 50;cost 3;";
        RodOwes x = withPurse(text, 955);
        edges.answers(x, 1, "bore", 0, 0, 2);
        edges.answers(x, 999, "purse", 0);
        edges.refused(() -> withPurse(text, 956), RodOwes.STATE, "bore", 0, 0, 2);
        edges.refused(() -> withPurse(text, 999), RodOwes.STATE, "bore", 0, 0, 2);
        edges.answers(withPurse(text, 999), 0, "bore", 0, 0, 1);
        RodOwes deeper = withPurse(text, 962);
        edges.answers(deeper, 1, "bore", 0, 0, 5);
        edges.answers(deeper, 997, "purse", 0);
        RodOwes dear = withPurse("wet 0 1;price 10;cost 9;", 998);
        edges.answers(dear, 1, "bore", 0, 0, 1);
        edges.answers(dear, 999, "purse", 0);
        edges.refused(() -> withPurse("wet 0 1;price 10;cost 9;", 999), RodOwes.STATE, "bore", 0, 0, 1);
        RodOwes well = withPurse(text, 955);
        well.bore(0, 0, 2);
        edges.answers(well, 1, "bore", 0, 0, 2);
        edges.answers(well, 999, "purse", 0);
    }

    private static void badBeforeState() {
        edges.refused(Edges::rich, RodOwes.BAD, "bore", 1, 0, 0);
        edges.refused(Edges::rich, RodOwes.BAD, "bore", 1, 0, 10);
        edges.refused(Edges::rich, RodOwes.BAD, "bore", 4, 4, 1);
        edges.refused(() -> withPurse("", 0), RodOwes.BAD, "bore", 0, 0, 10);
        edges.refused(() -> withPurse("", 0), RodOwes.BAD, "bore", 0, 9, 1);
    }

    private static void yardsThatWereNotBoredYet() {
        for (int first = 1; first <= 9; first++) {
            for (int then = 1; then <= 9; then++) {
                RodOwes x = withPurse("cost 7;", 100);
                edges.answers(x, 0, "bore", 0, 0, first);
                edges.answers(x, 0, "bore", 0, 0, then);
                edges.answers(x, 100 - 7 * Math.max(first, then), "purse", 0);
                edges.answers(x, Math.max(first, then), "cell", 0, 4);
            }
        }
    }

    private static void waterNoDeeperThanItWasBored() {
        for (int depth = 0; depth <= 9; depth++) {
            for (int d = 1; d <= 9; d++) {
                RodOwes x = withPurse("price 5;", 50);
                x.wet(0, depth);
                int well = depth > 0 && depth <= d ? 1 : 0;
                edges.answers(x, well, "bore", 0, 0, d);
                edges.answers(x, well, "cell", 0, 5);
                edges.answers(x, well, "count", 0);
                edges.answers(x, 50 - d + 5 * well, "purse", 0);
            }
        }
    }

    private static void paidWhenItBecomesOne() {
        RodOwes x = withPurse("wet 0 5;price 20;", 50);
        int[] depths = {4, 5, 5, 9, 1};
        int[] purses = {46, 65, 65, 61, 61};
        for (int i = 0; i < depths.length; i++) {
            edges.answers(x, i == 0 ? 0 : 1, "bore", 0, 0, depths[i]);
            edges.answers(x, purses[i], "purse", 0);
        }
    }

    // ---- plan

    private static void boundsOfPlan() {
        for (int what : new int[] {0, 1, 10}) {
            edges.bounds(Edges::rich, 0, 0, 3, "plan", 0, 1, 1, what);
            edges.bounds(Edges::rich, 1, 1, 9, "plan", 0, 1, 1, what);
            edges.bounds(Edges::rich, 2, 0, 4, "plan", 0, 1, 1, what);
        }
        for (int what : new int[] {Integer.MIN_VALUE, -10, -1, 2, 9}) {
            edges.refused(Edges::rich, RodOwes.BAD, "plan", 2, 1, 1, what);
        }
    }

    private static void mean(Supplier<RodOwes> start, int o, int d, int n, long above, long below) {
        edges.asks(start, above, "plan", o, d, n, 0);
        edges.asks(start, below, "plan", o, d, n, 1);
    }

    private static RodOwes fourOf3() {
        return Due.told("claim 0 0;claim 1 0;claim 2 0;claim 3 0;odds 0 3;odds 1 3;odds 2 3;odds 3 3;price 99;");
    }

    private static void aPlanOfNone() {
        mean(EdgeBoreTest::fourOf3, 0, 1, 0, 0, 1);
        edges.asks(EdgeBoreTest::fourOf3, RodOwes.NONE, "plan", 0, 1, 0, 10);
        mean(EdgeBoreTest::fourOf3, 1, 1, 4, 0, 1);
        edges.asks(EdgeBoreTest::fourOf3, RodOwes.NONE, "plan", 1, 1, 4, 10);
    }

    private static void notSoMany() {
        for (int n = 0; n <= 4; n++) {
            for (int i = 0; i <= 4; i++) {
                edges.asks(EdgeBoreTest::fourOf3, i < n ? i : RodOwes.NONE, "plan", 0, 1, n, 10 + i);
            }
            edges.asks(EdgeBoreTest::fourOf3, RodOwes.NONE, "plan", 0, 1, n, Integer.MAX_VALUE);
        }
        RodOwes five = fourOf3();
        five.claim(8, 0);
        edges.answers(five, 8, "plan", 0, 1, 4, 10);
        edges.answers(five, 2, "plan", 0, 1, 4, 13);
        edges.answers(five, RodOwes.NONE, "plan", 0, 1, 4, 14);
    }

    private static void aMeanThatIsNotAbove0() {
        // PRICE 10 by 5 tenths: 5 yards cost just as much.
        mean(() -> Due.told("claim 0 0;"), 0, 4, 4, 1, 1);
        mean(() -> Due.told("claim 0 0;"), 0, 5, 4, 0, 1);
        mean(() -> Due.told("claim 0 0;"), 0, 6, 4, 0, 1);
        edges.asks(() -> Due.told("claim 0 0;"), 0, "plan", 0, 4, 4, 10);
        edges.asks(() -> Due.told("claim 0 0;"), RodOwes.NONE, "plan", 0, 5, 4, 10);
        edges.asks(() -> Due.told("claim 0 0;"), RodOwes.NONE, "plan", 0, 9, 4, 10);
    }

    private static void oddsOf0And10() {
        mean(() -> Due.told("claim 0 0;odds 0 0;price 99;"), 0, 1, 4, 0, 1);
        mean(() -> Due.told("claim 0 0;odds 0 10;price 99;"), 0, 1, 4, 98, 1);
        Supplier<RodOwes> sure = () -> Due.told("claim 0 0;claim 8 0;claim 7 0;odds 0 9;odds 8 10;odds 7 10;price 99;");
        mean(sure, 0, 1, 4, 98, 1);
        edges.asks(sure, 7, "plan", 0, 1, 4, 10);
        edges.asks(sure, RodOwes.NONE, "plan", 0, 1, 4, 11);
        // A sure one that costs all it brings is not bored.
        mean(() -> Due.told("claim 0 0;odds 0 10;price 9;"), 0, 9, 4, 0, 1);
        mean(() -> Due.told("claim 0 0;odds 0 10;price 9;"), 0, 8, 4, 1, 1);
    }

    private static void inLowestTerms() {
        mean(EdgeBoreTest::fourOf3, 0, 1, 1, 287, 10);
        mean(EdgeBoreTest::fourOf3, 0, 1, 2, 4879, 100);
        mean(EdgeBoreTest::fourOf3, 0, 1, 3, 62853, 1000);
        mean(EdgeBoreTest::fourOf3, 0, 1, 4, 726971, 10000);
        mean(() -> Due.told("claim 0 0;odds 0 8;"), 0, 1, 1, 7, 1);
        mean(() -> Due.told("claim 0 0;odds 0 8;price 11;"), 0, 1, 1, 39, 5);
        mean(() -> Due.told("claim 0 0;price 11;"), 0, 1, 1, 9, 2);
    }

    private static void theDearestAndTheCheapest() {
        mean(() -> Due.told("claim 0 0;odds 0 9;price 99;cost 9;"), 0, 9, 4, 81, 10);
        mean(() -> Due.told("claim 0 0;odds 0 8;price 99;cost 9;"), 0, 9, 4, 0, 1);
        mean(() -> Due.told("claim 0 0;odds 0 10;price 1;"), 0, 1, 4, 0, 1);
        mean(() -> Due.told("claim 0 0;odds 0 10;price 2;"), 0, 1, 4, 1, 1);
        mean(() -> Due.told("claim 0 0;odds 0 1;price 11;"), 0, 1, 4, 1, 10);
        mean(() -> Due.told("claim 0 0;odds 0 1;price 10;"), 0, 1, 4, 0, 1);
        // Four by 9 tenths: 881/10, and a tenth of it for each one behind.
        mean(() -> Due.told("claim 0 0;claim 1 0;claim 2 0;claim 3 0;odds 0 9;odds 1 9;odds 2 9;odds 3 9;price 99;"),
            0, 1, 4, 978791, 10000);
    }

    private static void cellsThatWereNotBored() {
        RodOwes x = Due.told("claim 0 0;claim 1 0;odds 0 9;odds 1 8;price 50;purse 0 99;");
        edges.answers(x, 0, "plan", 0, 9, 4, 10);
        x.bore(0, 0, 1);
        edges.answers(x, 1, "plan", 0, 9, 4, 10);
        edges.answers(x, RodOwes.NONE, "plan", 0, 9, 4, 11);
        edges.answers(x, 31, "plan", 0, 9, 4, 0);
        x.bore(0, 1, 9);
        edges.answers(x, RodOwes.NONE, "plan", 0, 9, 4, 10);
        edges.answers(x, 0, "plan", 0, 9, 4, 0);
        edges.answers(x, 1, "plan", 0, 9, 4, 1);
    }

    private static void cellsOfHisClaim() {
        RodOwes x = Due.told("county 4 4;claim 0 0;claim 15 3;claim 7 1;price 50;");
        int[] first = {0, 7, RodOwes.NONE, 15};
        for (int o = 0; o < 4; o++) {
            edges.answers(x, first[o], "plan", o, 1, 4, 10);
            edges.answers(x, RodOwes.NONE, "plan", o, 1, 4, 11);
        }
        x.claim(15, RodOwes.NONE);
        edges.answers(x, RodOwes.NONE, "plan", 3, 1, 4, 10);
    }

    private static void ofSeveralTheShortestThenTheFirstByCells() {
        RodOwes x = Due.told("county 4 4;claim 15 0;claim 14 0;claim 1 0;claim 0 0;odds 15 9;odds 14 9;odds 1 4;odds 0 4;");
        int[] plan = {14, 15, 0, 1};
        for (int i = 0; i < 4; i++) {
            edges.answers(x, plan[i], "plan", 0, 1, 4, 10 + i);
        }
        // By 4 yards those of 4 tenths add 10 * 4/10 - 4 = 0.
        edges.answers(x, 15, "plan", 0, 4, 4, 11);
        edges.answers(x, RodOwes.NONE, "plan", 0, 4, 4, 12);
        edges.answers(x, 14, "plan", 0, 1, 1, 10);
    }

    private static void aPlanAsksNoPurse() {
        mean(() -> Due.told("claim 0 0;odds 0 10;price 99;purse 0 0;"), 0, 9, 4, 90, 1);
        mean(() -> Due.told("claim 0 0;odds 0 10;price 99;wet 0 9;purse 0 99;"), 0, 1, 4, 98, 1);
    }
}

import java.util.function.Supplier;

/** Promises 27 and 28: a test for each sentence that names a boundary case. */
public final class EdgeBedTest {
    private static final Edges edges = new Edges();

    public static void main(String[] args) {
        boundsOfBeds();
        bedsOfEachCounty();
        noneOfThemFits();
        twoCellsOrMore();
        inOneRowOrOneColumn();
        ofOneDepth1To9();
        nothingWasBored();
        allWasBored();
        askedAgainBehindABore();
        boundsOfNext();
        deeperThanItWas();
        fewestAtTheWorst();
        fewerThanNow();
        ofSeveralTheLeast();
        edges.close("EdgeBedTest");
    }

    /** All CELLS are of OWNER 0, who can pay; then each three numbers are a CELL, its depth and how deep it is BORED. */
    private static RodOwes bored(int wide, int high, int... cells) {
        RodOwes x = Due.told("county " + wide + " " + high + ";price 1;");
        x.fund(0, 900);
        for (int c = 0; c < wide * high; c++) {
            x.claim(c, 0);
        }
        for (int i = 0; i + 2 < cells.length; i += 3) {
            x.wet(cells[i], cells[i + 1]);
            edges.is("the bore in " + cells[i], x.bore(0, cells[i], cells[i + 2]) >= 0 ? 1 : 0, 1);
        }
        return x;
    }

    private static RodOwes boredAll(int wide, int high, int d) {
        RodOwes x = bored(wide, high);
        for (int c = 0; c < wide * high; c++) {
            x.bore(0, c, d);
        }
        return x;
    }

    private static void beds(RodOwes x, int... want) {
        for (int what = 0; what < want.length; what++) {
            edges.answers(x, want[what], "beds", what);
        }
    }

    private static void boundsOfBeds() {
        edges.bounds(Edges::rich, 0, 0, 3, "beds", 0);
        edges.bounds(() -> boredAll(2, 2, 9), 0, 0, 3, "beds", 0);
    }

    private static void bedsOfEachCounty() {
        for (int wide = 2; wide <= 4; wide++) {
            for (int high = 2; high <= 4; high++) {
                int rows = high * wide * (wide - 1) / 2 + wide * high * (high - 1) / 2;
                String text = "county " + wide + " " + high + ";";
                edges.asks(() -> Due.told(text), 9 * rows, "beds", 0);
            }
        }
    }

    private static void noneOfThemFits() {
        Supplier<RodOwes> dry = () -> boredAll(4, 4, 9);
        edges.asks(dry, 0, "beds", 0);
        for (int what = 1; what <= 3; what++) {
            edges.asks(dry, RodOwes.NONE, "beds", what);
            edges.refused(dry, RodOwes.BAD, "beds", what == 1 ? -1 : what + 2);
        }
    }

    private static void twoCellsOrMore() {
        // A well in the corner; beside it all is dry to its depth.
        beds(bored(3, 3, 0, 5, 5, 1, 0, 5, 3, 0, 5), 0, RodOwes.NONE, RodOwes.NONE, RodOwes.NONE);
        // Beside it to the south it is dry one yard less: the column by 5 yards, two or three CELLS.
        beds(bored(3, 3, 0, 5, 5, 1, 0, 5, 3, 0, 4), 2, 0b1001, 0b110110110, 5);
        beds(bored(4, 4, 0, 1, 1, 1, 1, 1, 2, 1, 1, 3, 1, 1), 1, 0b1111, 0xFFF0, 1);
    }

    private static void inOneRowOrOneColumn() {
        // 2 and 3 of 3 by 3 are an end and a begin, 0 and 4 lie aslant, 0 and 2 have one between them.
        beds(bored(3, 3, 2, 1, 1, 3, 1, 1), 0, RodOwes.NONE);
        beds(bored(3, 3, 0, 1, 1, 4, 1, 1), 0, RodOwes.NONE);
        beds(bored(3, 3, 0, 1, 1, 2, 1, 1), 1, 0b111, 0b111111000, 1);
        beds(bored(3, 3, 0, 1, 1, 2, 1, 1, 1, 0, 1), 0, RodOwes.NONE);
        beds(bored(3, 3, 0, 1, 1, 1, 1, 1, 3, 1, 1), 0, RodOwes.NONE);
        beds(bored(4, 4, 3, 1, 1, 15, 1, 1), 1, 0x8888, 0x7777, 1);
        beds(bored(4, 4, 12, 1, 1, 15, 1, 1), 1, 0xF000, 0x0FFF, 1);
    }

    private static void ofOneDepth1To9() {
        for (int d = 1; d <= 9; d++) {
            // A well by d yards lies in two BEDS of 2 by 2, by each depth to d.
            beds(bored(2, 2, 0, 1, d), 2 * d, 1, 8, d);
            // Dry by d yards: the two BEDS through it by what is deeper, the two others (both through 3) by each depth.
            beds(bored(2, 2, 0, 0, d), 18 + 2 * (9 - d), d == 9 ? 8 : 0, d == 9 ? 1 : 0, 9);
            // Two wells of one BED: its depth is no more than the less deep of both.
            beds(bored(2, 2, 0, 1, d, 1, 1, 9), d, 3, 12, d);
        }
        // WATER is of two depths, but no BORE tells it.
        beds(bored(2, 2, 0, 2, 5, 1, 4, 5), 5, 3, 12, 5);
        // A well by 3 yards, and one that is dry by 3 and a well by 4: no depth is both.
        beds(bored(2, 2, 0, 3, 3, 1, 4, 3), 3, 5, 10, 3);
        beds(bored(2, 2, 0, 3, 3, 1, 4, 4), 3, 3, 12, 3);
    }

    private static void nothingWasBored() {
        edges.asks(() -> Due.told("county 2 2;"), 0, "beds", 1);
        edges.asks(() -> Due.told("county 2 2;"), 0, "beds", 2);
        edges.asks(() -> Due.told("county 4 4;"), 0, "beds", 2);
        edges.asks(() -> Due.told("county 2 2;"), 9, "beds", 3);
        // WATER itself tells nothing before it is BORED.
        edges.asks(() -> Due.told("county 2 2;wet 0 1;wet 3 1;"), 36, "beds", 0);
    }

    private static void allWasBored() {
        beds(boredAll(2, 2, 8), 4, 0, 0, 9);
        beds(boredAll(2, 2, 9), 0, RodOwes.NONE, RodOwes.NONE, RodOwes.NONE);
        beds(boredAll(4, 4, 8), 48, 0, 0, 9);
        beds(bored(2, 2, 0, 9, 9, 1, 9, 9, 2, 9, 8, 3, 9, 8), 9, 3, 12, 9);
        beds(bored(2, 2, 0, 1, 1, 1, 1, 1, 2, 1, 1, 3, 1, 1), 0, RodOwes.NONE, RodOwes.NONE, RodOwes.NONE);
    }

    private static void askedAgainBehindABore() {
        RodOwes x = bored(2, 2);
        beds(x, 36, 0, 0, 9);
        x.wet(0, 3);
        x.bore(0, 0, 3);
        beds(x, 6, 1, 8, 3);
        x.bore(0, 1, 3);
        beds(x, 3, 5, 10, 3);
        x.bore(0, 2, 3);
        beds(x, 0, RodOwes.NONE, RodOwes.NONE, RodOwes.NONE);
        Due.tell(x, "county 2 2;");
        beds(x, 36, 0, 0, 9);
    }

    // ---- next

    private static void boundsOfNext() {
        edges.bounds(Edges::rich, 0, 1, 9, "next", 1, 0);
        edges.bounds(Edges::rich, 1, 0, 1, "next", 1, 0);
        edges.bounds(() -> boredAll(2, 2, 9), 0, 1, 9, "next", 1, 1);
        edges.bounds(() -> boredAll(2, 2, 9), 1, 0, 1, "next", 9, 0);
    }

    private static void next(RodOwes x, int d, int where, int left) {
        edges.answers(x, where, "next", d, 0);
        edges.answers(x, left, "next", d, 1);
    }

    private static void deeperThanItWas() {
        for (int d = 1; d <= 9; d++) {
            // Dry in 0 by d. To d yards: through 3 run two BEDS that FIT for each depth, through 1 only one.
            RodOwes x = bored(2, 2, 0, 0, d);
            int now = 18 + 2 * (9 - d);
            edges.answers(x, now, "beds", 0);
            next(x, d, d <= 7 ? 3 : 1, d <= 7 ? Math.max(2 * d, now - 2 * d) : now - d);
        }
        // All were BORED dry to 8: of the four BEDS by 9 two run through each CELL.
        RodOwes y = boredAll(2, 2, 8);
        next(y, 8, RodOwes.NONE, RodOwes.NONE);
        next(y, 9, 0, 2);
        y.bore(0, 0, 9);
        next(y, 9, 1, 1);
    }

    private static void fewestAtTheWorst() {
        edges.asks(() -> Due.told("county 2 2;"), 0, "next", 1, 0);
        edges.asks(() -> Due.told("county 2 2;"), 34, "next", 1, 1);
        edges.asks(() -> Due.told("county 2 2;"), 18, "next", 9, 1);
        // 3 by 3: through the middle run 6 of 18 BEDS of a depth, through a side's middle 5, through a corner 4.
        edges.asks(() -> new RodOwes(), 4, "next", 1, 0);
        edges.asks(() -> new RodOwes(), 156, "next", 1, 1);
        edges.asks(() -> new RodOwes(), 4, "next", 9, 0);
        edges.asks(() -> new RodOwes(), 108, "next", 9, 1);
        // 4 by 4: 10 of 48 through each of the four in the middle, 5 is the least of them.
        edges.asks(() -> Due.told("county 4 4;"), 5, "next", 9, 0);
        edges.asks(() -> Due.told("county 4 4;"), 432 - 90, "next", 9, 1);
    }

    private static void fewerThanNow() {
        Supplier<RodOwes> none = () -> boredAll(4, 4, 9);
        edges.asks(none, RodOwes.NONE, "next", 9, 0);
        edges.asks(none, RodOwes.NONE, "next", 9, 1);
        // One BED alone: no BORE leaves fewer.
        Supplier<RodOwes> one = () -> bored(2, 2, 0, 1, 1, 1, 1, 1);
        edges.asks(one, 1, "beds", 0);
        edges.asks(one, RodOwes.NONE, "next", 9, 0);
        edges.asks(one, RodOwes.NONE, "next", 9, 1);
        // Two of one row by 9 yards, told by less than that: nothing can tell.
        Supplier<RodOwes> two = () -> bored(2, 2, 0, 1, 2, 1, 1, 2);
        edges.asks(two, 2, "beds", 0);
        edges.asks(two, RodOwes.NONE, "next", 9, 0);
        edges.asks(two, RodOwes.NONE, "next", 1, 0);
    }

    private static void ofSeveralTheLeast() {
        // A well in the last CELL by 1 yard: 11, 7, 3 and 14, 13, 12 lie on its BEDS, 11 and 14 on three of six.
        RodOwes x = bored(4, 4, 15, 1, 1);
        edges.answers(x, 6, "beds", 0);
        next(x, 1, 11, 3);
        // North of it is dry: the row alone, and 14 lies on all three, 13 on two, 12 on one.
        RodOwes y = bored(4, 4, 15, 1, 1, 11, 0, 1);
        edges.answers(y, 3, "beds", 0);
        next(y, 9, 12, 2);
        // Wells in 13 and 14, dry in 12: the last CELL alone can tell.
        RodOwes z = bored(4, 4, 13, 1, 1, 14, 1, 1, 12, 0, 1);
        edges.answers(z, 2, "beds", 0);
        next(z, 1, 15, 1);
        next(z, 9, 15, 1);
        // Dry by 9, 7 and 8: left are 1 and 3 by 8 and 9, 2 and 3 by 9.
        RodOwes u = bored(2, 2, 0, 0, 9, 1, 0, 7, 2, 0, 8);
        edges.answers(u, 3, "beds", 0);
        next(u, 9, 1, 2);
        next(u, 8, 1, 2);
        next(u, 7, RodOwes.NONE, RodOwes.NONE);
    }
}

import java.util.function.Supplier;

/** Promises 9 to 17: a test for each sentence that names a boundary case. */
public final class EdgeChangeTest {
    private static final Edges edges = new Edges();

    public static void main(String[] args) {
        waterOfACellBecomes();
        stateItWasBored();
        ironInACellOrNone();
        oddsOfACellBecome();
        theClaimOfACellIs();
        purseOfAnOwnerBecomes();
        theRodHas();
        aDebtMore();
        alsoToHimself();
        debts8AtMost();
        debtsAreTheFirstAlone();
        rain0To8();
        rainLeaves1AtLeast();
        rainMakesWells();
        byRainNobodyIsPaid();
        whatIsSetBackIsAsItWas();
        edges.close("EdgeChangeTest");
    }

    private static RodOwes widest() {
        return Due.told("county 4 4;");
    }

    private static RodOwes narrowest() {
        return Due.told("county 2 2;");
    }

    /** The CELL is the first number of a call. */
    private static void boundsOfCells(String name, Object... args) {
        edges.bounds(Edges::rich, 0, 0, 11, name, args);
        edges.bounds(EdgeChangeTest::widest, 0, 0, 15, name, args);
        edges.bounds(EdgeChangeTest::narrowest, 0, 0, 3, name, args);
        edges.bounds(RodOwes::new, 0, 0, 8, name, args);
    }

    private static void waterOfACellBecomes() {
        boundsOfCells("wet", 0, 5);
        edges.bounds(Edges::rich, 1, 0, 9, "wet", 11, 0);
        RodOwes x = widest();
        for (int c = 0; c < 16; c++) {
            for (int v = 0; v <= 9; v++) {
                edges.answers(x, v == 0 ? 0 : v - 1, "wet", c, v);
                edges.answers(x, v, "cell", c, 0);
            }
        }
    }

    private static void stateItWasBored() {
        for (int v = 0; v <= 9; v++) {
            edges.refused(Edges::rich, RodOwes.STATE, "wet", 0, v);
            edges.refused(Edges::rich, RodOwes.STATE, "wet", 1, v);
        }
        edges.refused(Edges::rich, RodOwes.BAD, "wet", 0, 10);
        edges.refused(Edges::rich, RodOwes.BAD, "wet", 0, -1);
        Supplier<RodOwes> oneYard = () -> {
            RodOwes x = Due.told("claim 8 3;purse 3 1;");
            x.bore(3, 8, 1);
            return x;
        };
        edges.refused(oneYard, RodOwes.STATE, "wet", 8, 1);
        edges.answers(oneYard.get(), 0, "wet", 7, 1);
        RodOwes y = oneYard.get();
        Due.tell(y, "");
        edges.answers(y, 0, "wet", 8, 9);
        RodOwes z = Edges.rich();
        z.back(0);
        edges.answers(z, RodOwes.STATE, "wet", 0, 1);
        edges.answers(z, 3, "wet", 1, 1);
    }

    private static void ironInACellOrNone() {
        boundsOfCells("iron", 0, true);
        boundsOfCells("iron", 0, false);
        RodOwes x = widest();
        for (int c = 0; c < 16; c++) {
            edges.answers(x, 0, "iron", c, false);
            edges.answers(x, 0, "iron", c, true);
            edges.answers(x, 1, "iron", c, true);
            edges.answers(x, 1, "cell", c, 1);
            edges.answers(x, 1, "iron", c, false);
            edges.answers(x, 0, "cell", c, 1);
        }
    }

    private static void oddsOfACellBecome() {
        boundsOfCells("odd", 0, 5);
        edges.bounds(Edges::rich, 1, 0, 10, "odd", 3, 0);
        RodOwes x = widest();
        for (int c = 0; c < 16; c++) {
            for (int v = 0; v <= 10; v++) {
                edges.answers(x, v == 0 ? 5 : v - 1, "odd", c, v);
                edges.answers(x, v, "cell", c, 2);
            }
        }
        edges.answers(Edges.rich(), 5, "odd", 0, 10);
    }

    private static void theClaimOfACellIs() {
        boundsOfCells("claim", 0, 3);
        boundsOfCells("claim", 0, RodOwes.NONE);
        edges.bounds(Edges::rich, 1, 0, 3, "claim", 3, 0);
        for (int o : new int[] {RodOwes.FULL, RodOwes.STATE, RodOwes.BAD, RodOwes.NONE - 1}) {
            edges.refused(Edges::rich, RodOwes.BAD, "claim", 0, o);
        }
        RodOwes x = widest();
        for (int c = 0; c < 16; c++) {
            edges.answers(x, RodOwes.NONE, "claim", c, RodOwes.NONE);
            edges.answers(x, RodOwes.NONE, "claim", c, 0);
            edges.answers(x, 0, "claim", c, 3);
            edges.answers(x, 3, "cell", c, 3);
            edges.answers(x, 3, "claim", c, RodOwes.NONE);
            edges.answers(x, RodOwes.NONE, "cell", c, 3);
        }
        edges.answers(Edges.rich(), 0, "claim", 0, RodOwes.NONE);
    }

    private static void purseOfAnOwnerBecomes() {
        edges.bounds(Edges::rich, 0, 0, 3, "fund", 0, 5);
        edges.bounds(Edges::rich, 1, 0, 999, "fund", 3, 5);
        RodOwes x = new RodOwes();
        for (int o = 0; o < 4; o++) {
            edges.answers(x, 0, "fund", o, 999);
            edges.answers(x, 999, "purse", o);
            edges.answers(x, 999, "fund", o, 0);
            edges.answers(x, 0, "purse", o);
        }
    }

    private static void theRodHas() {
        edges.bounds(Edges::rich, 0, 0, 4, "cut", 0, 5);
        edges.bounds(Edges::rich, 1, 1, 9, "cut", 2, 5);
        RodOwes x = new RodOwes();
        int was = 0;
        for (int nature = 0; nature <= 4; nature++) {
            for (int reach = 1; reach <= 9; reach++) {
                edges.answers(x, was, "cut", nature, reach);
                edges.answers(x, nature, "rule", 4);
                edges.answers(x, reach, "rule", 5);
                was = nature;
            }
        }
    }

    private static void aDebtMore() {
        edges.bounds(Edges::rich, 0, 0, 3, "owe", 0, 1, 5);
        edges.bounds(Edges::rich, 1, 0, 3, "owe", 2, 1, 5);
        edges.bounds(Edges::rich, 2, 1, 99, "owe", 2, 1, 5);
        for (int v : new int[] {1, 99}) {
            RodOwes x = new RodOwes();
            edges.answers(x, 1, "owe", 3, 0, v);
            edges.answers(x, v, "save", 3);
            edges.answers(x, 2, "owe", 3, 0, v);
            edges.answers(x, 2 * v, "save", 3);
        }
    }

    private static void alsoToHimself() {
        for (int o = 0; o < 4; o++) {
            edges.refused(Edges::rich, RodOwes.BAD, "owe", o, o, 5);
            edges.refused(Edges::fullOfDebts, RodOwes.BAD, "owe", o, o, 5);
        }
    }

    private static void debts8AtMost() {
        RodOwes x = new RodOwes();
        for (int i = 1; i <= 8; i++) {
            edges.answers(x, i, "owe", i % 4, (i + 1) % 4, i);
        }
        edges.answers(x, RodOwes.FULL, "owe", 0, 1, 1);
        edges.refused(Edges::fullOfDebts, RodOwes.FULL, "owe", 0, 1, 1);
        edges.refused(Edges::fullOfDebts, RodOwes.FULL, "owe", 3, 2, 99);
        edges.refused(Edges::fullOfDebts, RodOwes.BAD, "owe", 0, 1, 0);
        edges.refused(Edges::fullOfDebts, RodOwes.BAD, "owe", 0, 1, 100);
        edges.refused(Edges::fullOfDebts, RodOwes.BAD, "owe", 4, 1, 1);
        edges.refused(Edges::fullOfDebts, RodOwes.BAD, "owe", 0, -1, 1);
        x.pay(7);
        edges.answers(x, 8, "owe", 0, 1, 1);
        edges.answers(Due.told("owe 0 1 1;".repeat(8)), RodOwes.FULL, "owe", 0, 1, 1);
    }

    private static void debtsAreTheFirstAlone() {
        edges.bounds(RodOwes::new, 0, 0, 0, "pay", 0);
        edges.bounds(Edges::rich, 0, 0, 4, "pay", 0);
        edges.bounds(Edges::fullOfDebts, 0, 0, 8, "pay", 0);
        edges.asks(RodOwes::new, 0, "pay", 0);
        edges.asks(Edges::rich, 4, "pay", 4);
        edges.asks(Edges::fullOfDebts, 8, "pay", 8);
        RodOwes x = Due.told("owe 0 3 1;owe 1 3 2;owe 2 3 4;");
        edges.answers(x, 3, "pay", 2);
        edges.answers(x, 3, "crash", 0);
        edges.answers(x, 2, "pay", 1);
        edges.answers(x, 1, "crash", 0);
        edges.answers(x, 1, "save", 0);
        edges.answers(x, 1, "pay", 0);
        edges.answers(x, 0, "rule", 6);
        edges.answers(x, 1, "owe", 1, 0, 9);
        edges.answers(x, 9, "save", 1);
    }

    private static void rain0To8() {
        edges.bounds(Edges::rich, 0, 0, 8, "rain", 0);
        edges.asks(Edges::rich, 1, "rain", 0);
        edges.asks(RodOwes::new, 0, "rain", 8);
    }

    private static void rainLeaves1AtLeast() {
        for (int v = 0; v <= 8; v++) {
            RodOwes x = Due.told("county 4 4;wet 1 1;wet 2 2;wet 3 3;wet 4 4;wet 5 5;wet 6 6;wet 7 7;wet 8 8;wet 15 9;");
            edges.answers(x, 0, "rain", v);
            for (int depth = 1; depth <= 9; depth++) {
                edges.answers(x, Math.max(1, depth - v), "cell", depth == 9 ? 15 : depth, 0);
            }
            edges.answers(x, 0, "cell", 0, 0);
        }
    }

    private static void rainMakesWells() {
        RodOwes x = Due.told("county 4 4;wet 0 9;wet 15 9;wet 1 2;claim 0 0;claim 15 0;claim 1 0;claim 2 0;purse 0 99;");
        x.bore(0, 0, 8);
        x.bore(0, 15, 7);
        x.bore(0, 2, 9);
        edges.answers(x, 0, "rain", 0);
        edges.answers(x, 1, "rain", 1);
        edges.answers(x, 1, "cell", 0, 5);
        edges.answers(x, 0, "cell", 15, 5);
        edges.answers(x, 2, "rain", 1);
        edges.answers(x, 2, "rain", 8);
        edges.answers(x, 0, "cell", 2, 5);
        edges.answers(x, 0, "cell", 1, 5);
        edges.answers(x, 2, "count", 0);
    }

    private static void byRainNobodyIsPaid() {
        RodOwes x = Due.told("wet 0 9;claim 0 0;purse 0 20;price 50;");
        x.bore(0, 0, 8);
        edges.answers(x, 12, "purse", 0);
        edges.answers(x, 1, "rain", 1);
        edges.answers(x, 12, "purse", 0);
        edges.answers(x, 1, "bore", 0, 0, 8);
        edges.answers(x, 12, "purse", 0);
        edges.answers(x, 1, "bore", 0, 0, 9);
        edges.answers(x, 11, "purse", 0);
        edges.answers(x, 11, "count", 6);
    }

    /** A change tells of one thing alone: when it is set back, all is as it was. */
    private static void whatIsSetBackIsAsItWas() {
        edges.same("wet and back", Edges::rich, () -> {
            RodOwes x = Edges.rich();
            x.wet(5, x.wet(5, 0));
            return x;
        });
        edges.same("iron and back", Edges::rich, () -> {
            RodOwes x = Edges.rich();
            x.iron(2, x.iron(2, false) == 1);
            return x;
        });
        edges.same("odd and back", Edges::rich, () -> {
            RodOwes x = Edges.rich();
            x.odd(11, x.odd(11, 10));
            return x;
        });
        edges.same("claim and back", Edges::rich, () -> {
            RodOwes x = Edges.rich();
            x.claim(10, x.claim(10, 3));
            x.claim(11, x.claim(11, RodOwes.NONE));
            return x;
        });
        edges.same("fund and back", Edges::rich, () -> {
            RodOwes x = Edges.rich();
            x.fund(3, x.fund(3, 999));
            return x;
        });
        edges.same("cut and back", Edges::rich, () -> {
            RodOwes x = Edges.rich();
            x.cut(x.cut(0, 1), 4);
            return x;
        });
        edges.same("owe and pay", Edges::rich, () -> {
            RodOwes x = Edges.rich();
            x.pay(x.owe(0, 3, 99) - 1);
            return x;
        });
        edges.same("see and forget", Edges::rich, () -> {
            RodOwes x = Edges.rich();
            x.forget(x.see(11, 3, 9, true) - 1);
            return x;
        });
    }
}

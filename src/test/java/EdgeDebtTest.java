import java.util.List;
import java.util.function.Supplier;

/** Promises 29 and 30: a test for each sentence that names a boundary case. */
public final class EdgeDebtTest {
    private static final Edges edges = new Edges();

    public static void main(String[] args) {
        boundsOfCrash();
        nobodyOwes();
        lessThanAllHeOwes();
        whatOthersOweHim();
        byThoseWhoFailedBefore();
        tillNobodyDoes();
        theMostThatCanBeOwed();
        boundsOfSave();
        theLeastThatIsToBePut();
        whatOthersOweHimIsNotToBePut();
        noneByAnotherWhoFails();
        edges.close("EdgeDebtTest");
    }

    private static void boundsOfCrash() {
        List<Supplier<RodOwes>> starts = List.of(RodOwes::new, Edges::rich, Edges::fullOfDebts);
        for (Supplier<RodOwes> start : starts) {
            edges.bounds(start, 0, 0, 1, "crash", 0);
            edges.bounds(start, 0, 10, 13, "crash", 0);
        }
        for (int what = 2; what <= 9; what++) {
            edges.refused(Edges::rich, RodOwes.BAD, "crash", what);
        }
    }

    private static void nobodyOwes() {
        edges.asks(RodOwes::new, 0, "crash", 0);
        edges.asks(RodOwes::new, 0, "crash", 1);
        for (int o = 0; o < 4; o++) {
            edges.asks(RodOwes::new, RodOwes.NONE, "crash", 10 + o);
            edges.asks(RodOwes::new, 0, "save", o);
        }
    }

    private static void crash(RodOwes x, int failed, int rounds, int... each) {
        edges.answers(x, failed, "crash", 0);
        edges.answers(x, rounds, "crash", 1);
        for (int o = 0; o < 4; o++) {
            edges.answers(x, each[o] == 0 ? RodOwes.NONE : each[o], "crash", 10 + o);
        }
    }

    private static void lessThanAllHeOwes() {
        for (int o = 0; o < 4; o++) {
            RodOwes x = new RodOwes();
            x.owe(o, (o + 1) % 4, 50);
            x.owe(o, (o + 2) % 4, 49);
            x.fund(o, 99);
            edges.answers(x, 0, "crash", 0);
            x.fund(o, 98);
            edges.answers(x, 1 << o, "crash", 0);
            edges.answers(x, 1, "crash", 10 + o);
            x.fund(o, 0);
            edges.answers(x, 1 << o, "crash", 0);
        }
        RodOwes y = Due.told("owe 0 1 1;");
        crash(y, 1, 1, 1, 0, 0, 0);
        y.fund(0, 1);
        crash(y, 0, 0, 0, 0, 0, 0);
    }

    private static void whatOthersOweHim() {
        RodOwes x = Due.told("owe 0 1 50;owe 1 2 60;purse 0 50;purse 1 10;");
        crash(x, 0, 0, 0, 0, 0, 0);
        x.fund(1, 9);
        crash(x, 2, 1, 0, 1, 0, 0);
        x.fund(1, 10);
        x.fund(0, 49);
        crash(x, 3, 2, 1, 2, 0, 0);
        x.fund(1, 59);
        crash(x, 3, 2, 1, 2, 0, 0);
        x.fund(1, 60);
        crash(x, 1, 1, 1, 0, 0, 0);
        // Both owe each other the same.
        crash(Due.told("owe 2 3 99;owe 3 2 99;"), 0, 0, 0, 0, 0, 0);
        crash(Due.told("owe 2 3 99;owe 3 2 98;"), 12, 2, 0, 0, 1, 2);
    }

    private static void byThoseWhoFailedBefore() {
        // 0 and 1 fail at once; 2 lacks what 1 owes him in the round behind, not in the same one.
        RodOwes x = Due.told("owe 0 3 5;owe 1 2 5;owe 2 3 5;");
        crash(x, 7, 2, 1, 1, 2, 0);
        // By numbers that fall: 3, then 2, then 1, then 0.
        RodOwes y = Due.told("owe 3 2 5;owe 2 1 5;owe 1 0 5;owe 0 3 4;");
        crash(y, 15, 4, 4, 3, 2, 1);
        // By numbers that rise.
        RodOwes z = Due.told("owe 0 1 5;owe 1 2 5;owe 2 3 5;owe 3 0 4;");
        crash(z, 15, 4, 1, 2, 3, 4);
    }

    private static void tillNobodyDoes() {
        RodOwes x = Due.told("owe 0 1 5;owe 1 2 5;owe 2 3 5;owe 3 0 4;");
        for (int o = 3; o >= 1; o--) {
            x.fund(o, 5);
            edges.answers(x, (1 << o) - 1, "crash", 0);
            edges.answers(x, o, "crash", 1);
            edges.answers(x, RodOwes.NONE, "crash", 10 + o);
            edges.answers(x, o, "crash", 9 + o);
        }
        x.fund(0, 1);
        crash(x, 0, 0, 0, 0, 0, 0);
    }

    private static void theMostThatCanBeOwed() {
        RodOwes x = Due.told("owe 3 0 99;".repeat(8));
        crash(x, 8, 1, 0, 0, 0, 1);
        edges.answers(x, 792, "save", 3);
        x.fund(3, 791);
        crash(x, 8, 1, 0, 0, 0, 1);
        edges.answers(x, 1, "save", 3);
        x.fund(3, 792);
        crash(x, 0, 0, 0, 0, 0, 0);
        edges.answers(x, 0, "save", 3);
        x.fund(3, 999);
        x.fund(0, 999);
        crash(x, 0, 0, 0, 0, 0, 0);
        edges.answers(x, 0, "save", 0);
    }

    private static void boundsOfSave() {
        edges.bounds(RodOwes::new, 0, 0, 3, "save", 0);
        edges.bounds(Edges::rich, 0, 0, 3, "save", 0);
        edges.bounds(Edges::fullOfDebts, 0, 0, 3, "save", 0);
        edges.refused(Edges::rich, RodOwes.BAD, "save", RodOwes.NONE);
    }

    private static void theLeastThatIsToBePut() {
        for (int v = 1; v <= 99; v += 49) {
            for (int purse = 0; purse <= v; purse++) {
                RodOwes x = new RodOwes();
                x.owe(2, 1, v);
                x.fund(2, purse);
                edges.answers(x, v - purse, "save", 2);
                edges.answers(x, purse, "purse", 2);
                x.fund(2, purse + (v - purse));
                edges.answers(x, 0, "crash", 0);
            }
        }
        // 0 saves 1 by his own hold: what is put into the PURSE of 0 is enough for both.
        Supplier<RodOwes> chain = () -> Due.told("owe 0 1 50;owe 1 2 40;purse 0 10;");
        edges.asks(chain, 40, "save", 0);
        edges.asks(chain, RodOwes.NONE, "save", 1);
        edges.asks(chain, RodOwes.NONE, "save", 2);
        edges.asks(chain, RodOwes.NONE, "save", 3);
    }

    private static void whatOthersOweHimIsNotToBePut() {
        for (int o = 0; o < 4; o++) {
            for (int other = 0; other < 4; other++) {
                if (other != o) {
                    RodOwes x = new RodOwes();
                    x.fund(other, 99);
                    x.owe(o, (o + 1) % 4, 60);
                    x.owe(other, o, 50);
                    edges.answers(x, 10, "save", o);
                    x.owe(other, o, 9);
                    edges.answers(x, 1, "save", o);
                    x.owe(other, o, 1);
                    edges.answers(x, 0, "save", o);
                    x.owe(other, o, 1);
                    edges.answers(x, 0, "save", o);
                }
            }
        }
    }

    private static void noneByAnotherWhoFails() {
        Supplier<RodOwes> two = () -> Due.told("owe 0 3 1;owe 1 3 1;");
        for (int o = 0; o < 4; o++) {
            edges.asks(two, RodOwes.NONE, "save", o);
        }
        RodOwes x = two.get();
        x.fund(1, 1);
        edges.answers(x, 1, "save", 0);
        edges.answers(x, RodOwes.NONE, "save", 1);
    }
}

import java.util.ArrayList;
import java.util.Arrays;
import java.util.List;
import java.util.function.Supplier;

/** Promises 1 to 8 and the text's grammar: a test for each sentence that names a boundary case. */
public final class EdgeTextTest {
    private static final Edges edges = new Edges();
    private static final String[][] LINES = {
        {"county", "3", "3", ";"}, {"wet", "1", "5", ";"}, {"iron", "1", ";"}, {"odds", "1", "5", ";"},
        {"claim", "1", "2", ";"}, {"purse", "1", "50", ";"}, {"cost", "5", ";"}, {"price", "50", ";"},
        {"rod", "both", "5", ";"}, {"owe", "1", "2", "50", ";"}};

    /** What is asked of an object that was told a number. */
    private interface Asked {
        long of(RodOwes x, int v);
    }

    public static void main(String[] args) {
        threeByThreeNoWaterSheetsOfNothing();
        aByte0To127();
        fullMoreThan160();
        theTapeKeepsItsFirstBytes();
        noBytesAtAll();
        placesFrom0To160();
        theTapeIsEmptyThen();
        thatWhichWasToldStays();
        theFaultOfTheLatestText();
        aTextThatIsTakenTellsAll();
        eachByteAsAToken();
        eachByteBehindAName();
        tokensAsLongAsMayBe();
        eachLetterOfAName();
        numbersOf1Or2Figures();
        theEndInALine();
        aTokenThatCanNotStandThere();
        noTokenInEachPlace();
        boundsOfTheRules();
        boundsOfCells();
        boundsOfOwners();
        countyCostPriceRodForTheSecondTime();
        aCellToldAlready();
        anOwnerToldAlready();
        whoOwesToHimself();
        theNinthOwe();
        aCellThatThereIsNot();
        theFirstFaultMet();
        rule();
        cell();
        purse();
        edges.close("EdgeTextTest");
    }

    private static void fault(String text, int number, int place) {
        RodOwes x = new RodOwes();
        edges.is("\"" + text + "\": text()", Due.tell(x, text), -10 - place);
        edges.is("\"" + text + "\": fault()", x.fault(), number);
    }

    private static RodOwes taken(String text, int lines) {
        RodOwes x = new RodOwes();
        edges.is("\"" + text + "\": text()", Due.tell(x, text), lines);
        edges.is("\"" + text + "\": fault()", x.fault(), 0);
        return x;
    }

    private static String join(String[] tokens, int count) {
        return String.join(" ", Arrays.copyOf(tokens, count));
    }

    // ---- a new object

    private static void threeByThreeNoWaterSheetsOfNothing() {
        Supplier<RodOwes> start = RodOwes::new;
        int[] of = {0, 0, 5, RodOwes.NONE, 0, 0};
        for (int what = 0; what < 6; what++) {
            edges.asks(start, of[what], "cell", 0, what);
            edges.asks(start, of[what], "cell", 8, what);
            edges.refused(start, RodOwes.BAD, "cell", 9, what);
        }
        int[] rules = {3, 3, 1, 10, 0, 9, 0};
        int[] counts = {0, 0, 0, 0, 0, RodOwes.NONE, 0};
        for (int what = 0; what < 7; what++) {
            edges.asks(start, rules[what], "rule", what);
            edges.asks(start, counts[what], "count", what);
        }
        for (int k = 0; k < 4; k++) {
            edges.asks(start, 0, "purse", k);
            edges.refused(start, -11, "lay", k, 0, 0);
        }
        edges.asks(start, 0, "fault");
        edges.asks(start, 0, "torn");
        edges.refused(start, RodOwes.STATE, "back", 0);
        edges.refused(start, RodOwes.STATE, "back", 1);
    }

    // ---- feed, end, text, fault

    private static void aByte0To127() {
        edges.bounds(Edges::rich, 0, 0, 127, "feed", 0);
        RodOwes x = new RodOwes();
        for (int c = 0; c <= 127; c++) {
            edges.answers(x, c + 1, "feed", c);
        }
    }

    private static void fullMoreThan160() {
        RodOwes x = new RodOwes();
        for (int i = 1; i <= 160; i++) {
            edges.answers(x, i, "feed", 32);
        }
        edges.answers(x, RodOwes.FULL, "feed", 32);
        edges.refused(Edges::fullTape, RodOwes.FULL, "feed", 0);
        edges.refused(Edges::fullTape, RodOwes.FULL, "feed", 127);
        edges.refused(Edges::fullTape, RodOwes.BAD, "feed", -1);
        edges.refused(Edges::fullTape, RodOwes.BAD, "feed", 128);
        x.end(159);
        edges.answers(x, 160, "feed", 36);
        edges.answers(x, -10 - 159, "text");
        edges.answers(x, 1, "feed", 32);
    }

    private static void theTapeKeepsItsFirstBytes() {
        edges.bounds(Edges::rich, 0, 0, 7, "end", 0);
        edges.bounds(Edges::fullTape, 0, 0, 160, "end", 0);
        edges.bounds(RodOwes::new, 0, 0, 0, "end", 0);
        edges.asks(RodOwes::new, 0, "end", 0);
        edges.asks(Edges::rich, 7, "end", 7);
        edges.asks(Edges::fullTape, 160, "end", 160);
        RodOwes x = Edges.fullTape();
        edges.answers(x, 160, "end", 19);
        edges.answers(x, 19, "end", 0);
        edges.answers(x, 0, "end", 0);
        RodOwes y = Edges.fullTape();
        y.end(20);
        edges.answers(y, 2, "text");
        edges.answers(y, 9, "cell", 15, 0);
        edges.answers(y, 10, "rule", 3);
    }

    private static void noBytesAtAll() {
        taken("", 0);
        taken(" ", 0);
        taken(" ".repeat(160), 0);
        edges.same("a new object told nothing", RodOwes::new, () -> taken("", 0));
    }

    private static void placesFrom0To160() {
        fault("$", 1, 0);
        fault(" $", 1, 1);
        fault(" ".repeat(159) + "$", 1, 159);
        fault(" ".repeat(159) + "x", 2, 159);
        fault("cost" + " ".repeat(156), 2, 160);
        fault("iron 9;" + " ".repeat(153), 6, 160);
        fault("x".repeat(160), 2, 0);
        fault("1".repeat(160), 1, 0);
        fault("cost 1" + "0".repeat(154), 1, 5);
        taken("cost 2;" + " ".repeat(153), 1);
        taken(" ".repeat(153) + "cost 2;", 1);
        String many = "county4 4;cost1;price1;rod iron1;iron0;iron1;iron2;iron3;iron4;iron5;iron6;iron7;iron8;iron9;iron10;"
            + "iron11;iron12;iron13;iron14;iron15;purse0 1;";
        taken(many, 21);
    }

    private static void theTapeIsEmptyThen() {
        RodOwes x = Edges.fullTape();
        edges.answers(x, 3, "text");
        edges.answers(x, 0, "count", 4);
        edges.answers(x, 0, "end", 0);
        edges.answers(x, 1, "feed", 36);
        edges.answers(x, -10, "text");
        edges.answers(x, 0, "count", 4);
        edges.answers(x, 0, "text");
    }

    /** A text with each FAULT, told when much was there: but THE TAPE and fault() all is as it was. */
    private static void thatWhichWasToldStays() {
        String whole = "county 2 2;wet 0 9;iron 0;odds 0 0;claim 0 3;purse 0 1;cost 9;price 9;rod iron 1;";
        String[] faulty = {"$", "wood", "wet 1 0;", "cost 2;", "owe0 3 9;".repeat(8) + "owe", "wet 4 1;"};
        for (int number = 1; number <= 6; number++) {
            String text = whole + faulty[number - 1];
            edges.is("\"" + text + "\": fault()", richTold(text).fault(), number);
            edges.same("fault " + number + " leaves all", EdgeTextTest::richWithNoTape, () -> richTold(text), "fault");
        }
    }

    private static RodOwes richWithNoTape() {
        RodOwes x = Edges.rich();
        x.end(0);
        return x;
    }

    private static RodOwes richTold(String text) {
        RodOwes x = richWithNoTape();
        Due.tell(x, text);
        return x;
    }

    private static void theFaultOfTheLatestText() {
        RodOwes x = new RodOwes();
        String[] texts = {"$", "cost", "cost 0;", "cost 1;cost", "owe 0 1 1;".repeat(9), "iron 15;"};
        for (int number = 1; number <= 6; number++) {
            Due.tell(x, texts[number - 1]);
            edges.answers(x, number, "fault");
            x.feed(32);
            x.end(0);
            x.rule(-1);
            edges.answers(x, number, "fault");
        }
        Due.tell(x, "");
        edges.answers(x, 0, "fault");
    }

    private static void aTextThatIsTakenTellsAll() {
        String text = "county 4 4;wet 15 9;claim 15 2;purse 2 99;owe 3 2 1;";
        edges.same("told in place of what there was", () -> Due.told(text), () -> richTold(text), "sheet", "torn");
        edges.same("nothing told in place of what there was", RodOwes::new, () -> richTold(""), "sheet", "torn");
        RodOwes x = richTold(text);
        edges.answers(x, 0, "count", 0);
        edges.answers(x, 0, "count", 1);
        edges.answers(x, 0, "count", 2);
        edges.answers(x, 0, "count", 3);
        edges.answers(x, RodOwes.STATE, "back", 0);
        edges.answers(x, RodOwes.STATE, "back", 1);
        edges.answers(x, 9, "count", 5);
        edges.answers(x, 3, "torn");
    }

    // ---- tokens

    private static void eachByteAsAToken() {
        for (int b = 0; b <= 127; b++) {
            boolean token = b >= 'a' && b <= 'z' || b >= '0' && b <= '9' || b == ';';
            if (b == ' ') {
                taken(" ", 0);
            } else {
                fault(String.valueOf((char) b), token ? 2 : 1, 0);
            }
        }
    }

    private static void eachByteBehindAName() {
        for (int b = 0; b <= 127; b++) {
            String text = "cost" + (char) b + "5;";
            if (b == ' ' || b == '0') {
                edges.answers(taken(text, 1), 5, "rule", 2);
            } else if (b >= 'a' && b <= 'z') {
                fault(text, 2, 0);
            } else if (b >= '1' && b <= '9') {
                fault(text, 3, 4);
            } else {
                fault(text, b == ';' ? 2 : 1, 4);
            }
        }
    }

    private static void tokensAsLongAsMayBe() {
        fault("costcost1;", 2, 0);
        fault("costs 1;", 2, 0);
        fault("cos 1;", 2, 0);
        fault("co st 1;", 2, 0);
        fault("rod wate 1;", 2, 4);
        fault("rod waters 1;", 2, 4);
        fault("rodwater1;", 2, 0);
        fault("cost1price 2;", 2, 5);
        fault("cost 1;;", 2, 7);
        fault("owe 0 12;", 3, 6);
        taken("cost1;price2;rod water3;owe0 1 9;", 4);
        taken("   cost   1   ;   price   2   ;   ", 2);
    }

    /** A NAME with one letter changed, left out or doubled begins no line, is no K. */
    private static void eachLetterOfAName() {
        for (String[] line : LINES) {
            for (String name : otherNames(line[0])) {
                fault(name, 2, 0);
            }
        }
        for (String nature : new String[] {"water", "iron", "steps", "wishes", "both"}) {
            for (String name : otherNames(nature)) {
                fault("rod " + name, 2, 4);
            }
        }
    }

    private static List<String> otherNames(String name) {
        List<String> names = new ArrayList<>();
        for (int i = 0; i < name.length(); i++) {
            String ahead = name.substring(0, i);
            String behind = name.substring(i + 1);
            names.add(ahead + "q" + behind);
            names.add(ahead + behind);
            names.add(ahead + name.charAt(i) + name.substring(i));
        }
        return names;
    }

    private static void numbersOf1Or2Figures() {
        edges.answers(taken("cost 5;", 1), 5, "rule", 2);
        edges.answers(taken("cost 05;", 1), 5, "rule", 2);
        fault("cost 005;", 1, 5);
        fault("cost 100;", 1, 5);
        fault("cost 0000000000005;", 1, 5);
        fault("cost 4294967297;", 1, 5);
        fault("100", 1, 0);
        fault("99", 2, 0);
        edges.answers(taken("county 4 4;wet 09 01;wet 10 09;", 3), 1, "cell", 9, 0);
        fault("wet 9 1;wet 09 1;", 4, 12);
    }

    // ---- a line cut short, a token out of its place

    private static void theEndInALine() {
        for (String[] line : LINES) {
            for (int count = 1; count < line.length; count++) {
                String text = join(line, count);
                fault(text, 2, text.length());
                fault(text + "   ", 2, text.length() + 3);
                fault("   " + text, 2, text.length() + 3);
            }
            taken(join(line, line.length), 1);
        }
    }

    private static void aTokenThatCanNotStandThere() {
        for (String[] line : LINES) {
            for (int at = 0; at < line.length; at++) {
                boolean named = Character.isLetter(line[at].charAt(0));
                boolean figures = Character.isDigit(line[at].charAt(0));
                String ahead = at == 0 ? "" : join(line, at) + " ";
                fault(ahead + "x ", 2, ahead.length());
                fault(ahead + (at == 0 ? "water" : "county") + " 3 3;", 2, ahead.length());
                if (!figures) {
                    fault(ahead + "3;", 2, ahead.length());
                }
                if (named || figures) {
                    fault(ahead + ";", 2, ahead.length());
                }
            }
        }
    }

    private static void noTokenInEachPlace() {
        for (String[] line : LINES) {
            for (int at = 0; at <= line.length; at++) {
                String ahead = at == 0 ? "" : join(line, at) + " ";
                for (String none : new String[] {"$", "A", "-1", "\t", "100", "000"}) {
                    fault(ahead + none, 1, ahead.length());
                    fault(ahead + none + ";", 1, ahead.length());
                }
            }
        }
    }

    // ---- bounds: all numbers of two figures in each place, three figures are no number

    private static void bounds(String ahead, String behind, int least, int most, Asked asked) {
        for (int v = 0; v <= 99; v++) {
            for (String number : new String[] {"" + v, v < 10 ? "0" + v : "" + v}) {
                String text = ahead + number + behind;
                RodOwes x = new RodOwes();
                int answer = Due.tell(x, text);
                if (v >= least && v <= most) {
                    edges.is("\"" + text + "\" is taken", answer > 0 ? 1 : 0, 1);
                    edges.is("\"" + text + "\" is so", asked.of(x, v), 1);
                } else {
                    edges.is("\"" + text + "\": text()", answer, -10 - ahead.length());
                    edges.is("\"" + text + "\": fault()", x.fault(), 3);
                }
            }
        }
        fault(ahead + "100" + behind, 1, ahead.length());
    }

    private static long one(boolean is) {
        return is ? 1 : 0;
    }

    private static void boundsOfTheRules() {
        bounds("county ", " 3;", 2, 4, (x, v) -> one(x.rule(0) == v && x.rule(1) == 3));
        bounds("county 3 ", ";", 2, 4, (x, v) -> one(x.rule(0) == 3 && x.rule(1) == v));
        bounds("cost ", ";", 1, 9, (x, v) -> one(x.rule(2) == v));
        bounds("price ", ";", 1, 99, (x, v) -> one(x.rule(3) == v));
        String[] natures = {"water", "iron", "steps", "wishes", "both"};
        for (int k = 0; k < natures.length; k++) {
            int nature = k;
            bounds("rod " + natures[k] + " ", ";", 1, 9, (x, v) -> one(x.rule(4) == nature && x.rule(5) == v));
        }
    }

    private static void boundsOfCells() {
        bounds("county 4 4;wet ", " 7;", 0, 15, (x, v) -> one(x.cell(v, 0) == 7));
        bounds("wet 8 ", ";", 1, 9, (x, v) -> one(x.cell(8, 0) == v));
        bounds("county 4 4;iron ", ";", 0, 15, (x, v) -> x.cell(v, 1));
        bounds("county 4 4;odds ", " 7;", 0, 15, (x, v) -> one(x.cell(v, 2) == 7));
        bounds("odds 8 ", ";", 0, 10, (x, v) -> one(x.cell(8, 2) == v));
        bounds("county 4 4;claim ", " 2;", 0, 15, (x, v) -> one(x.cell(v, 3) == 2));
        bounds("claim 8 ", ";", 0, 3, (x, v) -> one(x.cell(8, 3) == v));
    }

    private static void boundsOfOwners() {
        bounds("purse ", " 7;", 0, 3, (x, v) -> one(x.purse(v) == 7));
        bounds("purse 3 ", ";", 0, 99, (x, v) -> one(x.purse(3) == v));
        bounds("owe 3 2 ", ";", 1, 99, (x, v) -> one(x.save(3) == v));
        for (int o = 0; o <= 4; o++) {
            String who = "owe " + o + (o == 1 ? " 2 5;" : " 1 5;");
            String whom = "owe " + (o == 1 ? "2 " : "1 ") + o + " 5;";
            if (o < 4) {
                edges.answers(taken(who, 1), 1 << o, "crash", 0);
                edges.answers(taken(whom, 1), 1 << (o == 1 ? 2 : 1), "crash", 0);
            } else {
                fault(who, 3, 4);
                fault(whom, 3, 6);
            }
        }
        fault("owe 99 1 5;", 3, 4);
        fault("owe 1 99 5;", 3, 6);
    }

    // ---- for the second time

    private static void countyCostPriceRodForTheSecondTime() {
        for (int line : new int[] {0, 6, 7, 8}) {
            String once = join(LINES[line], LINES[line].length);
            taken(once, 1);
            fault(once + once, 4, once.length());
            fault(once + "iron 0; " + LINES[line][0], 4, once.length() + 8);
            fault(once + LINES[line][0] + "$", 4, once.length());
        }
    }

    private static void aCellToldAlready() {
        String[] lines = {"wet", "iron", "odds", "claim"};
        for (String name : lines) {
            String behind = name.equals("iron") ? ";" : " 1;";
            for (int c = 0; c < 16; c++) {
                String once = "county 4 4;" + name + " " + c + behind;
                fault(once + name + " " + c + behind, 4, once.length() + name.length() + 1);
                fault(once + name + " " + c + "$", 4, once.length() + name.length() + 1);
                taken(once + name + " " + (c + 1) % 16 + behind, 3);
                for (String other : lines) {
                    if (!other.equals(name)) {
                        taken(once + other + " " + c + (other.equals("iron") ? ";" : " 1;"), 3);
                    }
                }
            }
        }
    }

    private static void anOwnerToldAlready() {
        for (int o = 0; o < 4; o++) {
            fault("purse " + o + " 1;purse " + o + " 1;", 4, 16);
            fault("purse " + o + " 0;purse " + o, 4, 16);
            taken("purse " + o + " 1;purse " + (o + 1) % 4 + " 1;", 2);
            taken("purse " + o + " 1;claim " + o + " 1;", 2);
        }
    }

    private static void whoOwesToHimself() {
        for (int o = 0; o < 4; o++) {
            fault("owe " + o + " " + o + " 5;", 4, 6);
            fault("owe " + o + " " + o, 4, 6);
            fault("owe " + o + " 0" + o + " 0;", 4, 6);
        }
        taken("owe 0 1 5;owe 1 0 5;owe 0 1 5;", 3);
    }

    private static void theNinthOwe() {
        String eight = "owe 0 1 5;".repeat(8);
        edges.answers(taken(eight, 8), 8, "rule", 6);
        fault(eight + "owe 0 1 5;", 5, 80);
        fault(eight + "owe", 5, 80);
        fault(eight + "cost 2;  owe 9", 5, 89);
        fault("owe 0 1 5;".repeat(10), 5, 80);
    }

    private static void aCellThatThereIsNot() {
        String[] lines = {"wet ", "iron ", "odds ", "claim "};
        for (int wide = 2; wide <= 4; wide++) {
            for (int high = 2; high <= 4; high++) {
                int cells = wide * high;
                String county = "county " + wide + " " + high + ";";
                for (String line : lines) {
                    String behind = line.equals("iron ") ? ";" : " 1;";
                    RodOwes x = taken(county + line + (cells - 1) + behind, 2);
                    edges.is("the last cell", x.cell(cells - 1, 0) == RodOwes.BAD ? 1 : 0, 0);
                    edges.answers(x, RodOwes.BAD, "cell", cells, 0);
                    taken(line + (cells - 1) + behind + county, 2);
                    if (cells < 16) {
                        String beyond = line + cells + behind;
                        fault(county + beyond, 6, county.length() + beyond.length());
                        fault(beyond + county + "  ", 6, county.length() + beyond.length() + 2);
                        fault(county + line + "15" + behind, 6, county.length() + line.length() + 2 + behind.length());
                    }
                }
            }
        }
        taken("iron 8;", 1);
        fault("iron 9;", 6, 7);
    }

    /** The first met as it is read: what stands behind it is not looked at, and a CELL that there is not comes last. */
    private static void theFirstFaultMet() {
        fault("iron 9;$", 1, 7);
        fault("iron 9;cost", 2, 11);
        fault("iron 9;cost 0;", 3, 12);
        fault("iron 9;iron 9;", 4, 12);
        fault("iron 9;" + "owe 0 1 5;".repeat(9), 5, 87);
        fault("iron 16;iron 9;", 3, 5);
        fault("wet 16 0;", 3, 4);
        fault("wet 1 0$", 3, 6);
        fault("wet 1$0;", 1, 5);
        fault("county 1 1;", 3, 7);
        fault("owe 4 4 0;", 3, 4);
        fault("owe 1 4 0;", 3, 6);
        fault("cost 1;cost 0;", 4, 7);
        fault("wet 1 1;wet 1 0;", 4, 12);
        fault("wet 1 1;wet 16 1;", 3, 12);
    }

    // ---- rule, cell, purse

    private static void rule() {
        edges.bounds(Edges::rich, 0, 0, 6, "rule", 0);
        int[] rules = {4, 3, 2, 30, 4, 4, 4};
        for (int what = 0; what < rules.length; what++) {
            edges.asks(Edges::rich, rules[what], "rule", what);
        }
        edges.asks(Edges::fullOfDebts, 8, "rule", 6);
    }

    private static void cell() {
        edges.bounds(Edges::rich, 0, 0, 11, "cell", 0, 0);
        edges.bounds(Edges::rich, 1, 0, 5, "cell", 0, 0);
        int[] of = {3, 0, 5, 0, 3, 1};
        for (int what = 0; what < of.length; what++) {
            edges.asks(Edges::rich, of[what], "cell", 0, what);
        }
        edges.asks(Edges::rich, 3, "cell", 11, 3);
        edges.asks(Edges::rich, RodOwes.NONE, "cell", 10, 3);
        // Its water is one yard deeper than it was bored.
        edges.asks(Edges::rich, 0, "cell", 1, 5);
        for (int wide = 2; wide <= 4; wide++) {
            for (int high = 2; high <= 4; high++) {
                String text = "county " + wide + " " + high + ";";
                edges.bounds(() -> Due.told(text), 0, 0, wide * high - 1, "cell", 0, 0);
            }
        }
    }

    private static void purse() {
        edges.bounds(Edges::rich, 0, 0, 3, "purse", 0);
        edges.asks(Edges::rich, 77, "purse", 3);
        edges.refused(Edges::rich, RodOwes.BAD, "purse", RodOwes.NONE);
    }
}

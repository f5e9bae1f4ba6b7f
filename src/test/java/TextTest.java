/** Promises 1 to 8: a new object, the tape, the text and its faults, what is asked of the county. */
public final class TextTest {
    private static final Due due = new Due();

    public static void main(String[] args) {
        aNewObject();
        feed();
        end();
        textTellsAll();
        textOfAnOldCounty();
        tokens();
        faultsOfTokens();
        faultsOfBounds();
        faultsOfTwice();
        faultsBehindAll();
        faultLeavesAll();
        rule();
        cell();
        purse();
        due.close("TextTest");
    }

    private static void aNewObject() {
        RodOwes x = new RodOwes();
        int[] rules = {3, 3, 1, 10, 0, 9, 0};
        for (int what = 0; what < rules.length; what++) {
            due.is("new: rule(" + what + ")", x.rule(what), rules[what]);
        }
        int[] of = {0, 0, 5, RodOwes.NONE, 0, 0};
        for (int c = 0; c < 9; c++) {
            for (int what = 0; what < of.length; what++) {
                due.is("new: cell(" + c + ", " + what + ")", x.cell(c, what), of[what]);
            }
        }
        int[] counts = {0, 0, 0, 0, 0, RodOwes.NONE, 0};
        for (int what = 0; what < counts.length; what++) {
            due.is("new: count(" + what + ")", x.count(what), counts[what]);
        }
        for (int k = 0; k < 4; k++) {
            due.is("new: purse(" + k + ")", x.purse(k), 0);
            due.is("new: lay(" + k + ")", x.lay(k, 0, 1), -11);
        }
        due.is("new: fault()", x.fault(), 0);
        due.is("new: torn()", x.torn(), 0);
        due.is("new: back(0)", x.back(0), RodOwes.STATE);
        due.is("new: natures()", x.natures(), 31);
    }

    private static void feed() {
        RodOwes x = new RodOwes();
        due.is("feed(-1)", x.feed(-1), RodOwes.BAD);
        due.is("feed(128)", x.feed(128), RodOwes.BAD);
        due.is("feed(MAX)", x.feed(Integer.MAX_VALUE), RodOwes.BAD);
        due.is("feed(0)", x.feed(0), 1);
        due.is("feed(127)", x.feed(127), 2);
        for (int i = 3; i <= 160; i++) {
            due.is("feed " + i, x.feed(32), i);
        }
        due.is("feed 161", x.feed(32), RodOwes.FULL);
        due.is("feed 161, bad first", x.feed(128), RodOwes.BAD);
        due.is("count(4)", x.count(4), 160);
    }

    private static void end() {
        RodOwes x = new RodOwes();
        due.is("end(0) of none", x.end(0), 0);
        due.is("end(1) of none", x.end(1), RodOwes.BAD);
        Due.feed(x, "cost 2;cost 3;");
        due.is("end(-1)", x.end(-1), RodOwes.BAD);
        due.is("end(15)", x.end(15), RodOwes.BAD);
        due.is("end(14)", x.end(14), 14);
        due.is("end(7)", x.end(7), 14);
        due.is("count(4)", x.count(4), 7);
        due.is("text()", x.text(), 1);
        due.is("rule(2)", x.rule(2), 2);
        due.is("the tape is empty then", x.count(4), 0);
    }

    private static void textTellsAll() {
        RodOwes x = Due.told("county 4 3;wet 11 9;iron 5;odds 6 10;claim 7 3;purse 2 99;cost 9;price 99;rod wishes 1;owe 3 0 99;");
        int[] rules = {4, 3, 9, 99, 3, 1, 1};
        for (int what = 0; what < rules.length; what++) {
            due.is("rule(" + what + ")", x.rule(what), rules[what]);
        }
        due.is("cell(11, 0)", x.cell(11, 0), 9);
        due.is("cell(5, 1)", x.cell(5, 1), 1);
        due.is("cell(6, 2)", x.cell(6, 2), 10);
        due.is("cell(7, 3)", x.cell(7, 3), 3);
        due.is("purse(2)", x.purse(2), 99);
        due.is("crash(0)", x.crash(0), 8);
        String[] names = {"water", "iron", "steps", "wishes", "both"};
        for (int k = 0; k < names.length; k++) {
            due.is("rod " + names[k], Due.tell(x, "rod " + names[k] + " 4;"), 1);
            due.is("rule(4)", x.rule(4), k);
            due.is("rule(5)", x.rule(5), 4);
        }
    }

    private static void textOfAnOldCounty() {
        RodOwes x = Due.told("county 4 4;wet 15 1;claim 15 1;purse 1 9;cost 2;price 3;rod both 2;owe 0 1 2;");
        x.bore(1, 15, 1);
        x.see(0, 0, 1, true);
        x.keep(1);
        x.sheet(0, 1, 5);
        x.feed(32);
        due.is("an empty text", x.text(), 0);
        int[] rules = {3, 3, 1, 10, 0, 9, 0};
        for (int what = 0; what < rules.length; what++) {
            due.is("rule(" + what + ")", x.rule(what), rules[what]);
        }
        int[] counts = {0, 0, 0, 0, 0, 5, 0};
        for (int what = 0; what < counts.length; what++) {
            due.is("count(" + what + ")", x.count(what), counts[what]);
        }
        due.is("the image is gone", x.back(1), RodOwes.STATE);
        due.is("cell(15, 0)", x.cell(15, 0), RodOwes.BAD);
        due.is("a wider one", Due.tell(x, "county 4 4;"), 1);
        due.is("no water left of before", x.cell(15, 0), 0);
        due.is("no bore left of before", x.cell(15, 4), 0);
        due.is("no claim left of before", x.cell(15, 3), RodOwes.NONE);
    }

    private static void tokens() {
        RodOwes x = new RodOwes();
        due.is("no blanks", Due.tell(x, "wet1 2;iron1;odds 1 3;"), 3);
        due.is("many blanks", Due.tell(x, "  wet   01   09  ;  iron 00 ; "), 2);
        due.is("two figures", x.cell(1, 0), 9);
        fault("names as long as may be", "wetx 1 2;", 2, 0);
        fault("county grows into a name", "countyy 2 2;", 2, 0);
        fault("a name cut short", "count 2 2;", 2, 0);
        fault("another first letter", "xet 1 1;", 2, 0);
        fault("another first letter of K", "rod xater 1;", 2, 4);
        fault("another last letter", "wex 1 1;", 2, 0);
    }

    private static void faultsOfTokens() {
        fault("no token", "$", 1, 0);
        fault("a great letter", "Wet 1 1;", 1, 0);
        fault("a great letter in a name", "wEt 1 1;", 2, 0);
        fault("another blank", "wet\t1 1;", 1, 3);
        fault("the byte 0", "cost 1;\0", 1, 7);
        fault("three figures", "cost 001;", 1, 5);
        fault("three figures, no number due", "100", 1, 0);
        fault("bounds before the next token", "cost 0$", 3, 5);
        fault("a number for a name", "3 cost;", 2, 0);
        fault("a stop for a name", "cost 1;;", 2, 7);
        fault("a name for a number", "cost cost;", 2, 5);
        fault("a name for a stop", "cost 1 cost 2;", 2, 7);
        fault("a number too much", "cost 1 2;", 2, 7);
        fault("the end in a line", "cost", 2, 4);
        fault("the end behind blanks", "wet 1  ", 2, 7);
        fault("the end for a stop", "wet 1 1", 2, 7);
        fault("no K", "rod wood 4;", 2, 4);
        fault("a line's name is no K", "rod wet 4;", 2, 4);
        fault("a number for K", "rod 4;", 2, 4);
        fault("a K begins no line", "water 4;", 2, 0);
    }

    private static void faultsOfBounds() {
        fault("WIDE 1", "county 1 2;", 3, 7);
        fault("WIDE 5", "county 5 2;", 3, 7);
        fault("HIGH 1", "county 2 1;", 3, 9);
        fault("HIGH 5", "county 2 5;", 3, 9);
        fault("wet 16", "wet 16 1;", 3, 4);
        fault("depth 0", "wet 1 0;", 3, 6);
        fault("depth 10", "wet 1 10;", 3, 6);
        fault("iron 16", "iron 16;", 3, 5);
        fault("odds 16", "odds 16 1;", 3, 5);
        fault("odds 11", "odds 1 11;", 3, 7);
        fault("claim 16", "claim 16 1;", 3, 6);
        fault("claim of 4", "claim 1 4;", 3, 8);
        fault("purse of 4", "purse 4 1;", 3, 6);
        fault("cost 0", "cost 0;", 3, 5);
        fault("cost 10", "cost 10;", 3, 5);
        fault("price 0", "price 0;", 3, 6);
        fault("reach 0", "rod iron 0;", 3, 9);
        fault("reach 10", "rod iron 10;", 3, 9);
        fault("owe by 4", "owe 4 1 1;", 3, 4);
        fault("owe to 4", "owe 1 4 1;", 3, 6);
        fault("owe 0", "owe 1 2 0;", 3, 8);
        RodOwes x = new RodOwes();
        due.is("the edges", Due.tell(x, "county 4 4;wet 15 9;odds 0 0;odds 15 10;claim 15 3;purse 3 99;purse 0 0;cost 9;price 1;rod both 9;owe 0 3 1;"), 11);
    }

    private static void faultsOfTwice() {
        fault("county twice", "county 2 2;county 9", 4, 11);
        fault("cost twice", "cost 1;cost 1;", 4, 7);
        fault("price twice", "price 1;price", 4, 8);
        fault("rod twice", "rod both 1;rod wood", 4, 11);
        fault("wet twice", "wet 1 1;wet 1 99;", 4, 12);
        fault("iron twice", "iron 1;iron 01;", 4, 12);
        fault("odds twice", "odds 1 5;odds 1 5;", 4, 14);
        fault("claim twice", "claim 1 1;claim 1 1;", 4, 16);
        fault("purse twice", "purse 0 1;purse 0 $", 4, 16);
        fault("to himself", "owe 1 1 0;", 4, 6);
        due.is("one cell by four lines", Due.tell(new RodOwes(), "wet 1 1;iron 1;odds 1 1;claim 1 1;purse 1 1;"), 5);
        String debts = "owe 0 1 5;owe 0 1 5;owe 1 0 5;owe 2 1 5;owe 3 1 5;owe 0 1 5;owe 0 1 5;owe 0 1 5;";
        due.is("eight debts", Due.tell(new RodOwes(), debts), 8);
        fault("nine debts", debts + " owe", 5, 81);
    }

    private static void faultsBehindAll() {
        fault("wet 9 of 9", "wet 9 1; ", 6, 9);
        fault("iron 9 of 9", "iron 9;", 6, 7);
        fault("odds 4 of 4", "odds 4 1;county 2 2;", 6, 20);
        fault("claim 15 of 12", "county 4 3;claim 15 0;", 6, 22);
        fault("another fault is met first", "wet 9 1;cost 0;", 3, 13);
        due.is("a county told last", Due.tell(new RodOwes(), "wet 15 1;county 4 4;"), 2);
    }

    private static void faultLeavesAll() {
        RodOwes x = Due.told("county 4 4;wet 15 1;claim 15 1;purse 1 9;cost 2;");
        x.bore(1, 15, 1);
        x.see(15, 1, 1, true);
        x.keep(0);
        due.is("a late fault", Due.tell(x, "county 2 2;wet 1 5;cost 3;purse 1 1;wet 1 5;"), -50);
        due.is("fault()", x.fault(), 4);
        due.is("the tape is empty", x.count(4), 0);
        due.is("rule(0)", x.rule(0), 4);
        due.is("rule(2)", x.rule(2), 2);
        due.is("cell(1, 0)", x.cell(1, 0), 0);
        due.is("cell(15, 5)", x.cell(15, 5), 1);
        due.is("purse(1)", x.purse(1), 17);
        due.is("count(2)", x.count(2), 1);
        due.is("count(3)", x.count(3), 1);
        due.is("a text that is taken", Due.tell(x, "cost 3;"), 1);
        due.is("fault() then", x.fault(), 0);
    }

    private static void rule() {
        RodOwes x = new RodOwes();
        due.is("rule(-1)", x.rule(-1), RodOwes.BAD);
        due.is("rule(7)", x.rule(7), RodOwes.BAD);
        due.is("rule(MIN)", x.rule(Integer.MIN_VALUE), RodOwes.BAD);
    }

    private static void cell() {
        RodOwes x = Due.told("county 2 2;wet 3 2;claim 3 0;purse 0 9;");
        due.is("cell(-1, 0)", x.cell(-1, 0), RodOwes.BAD);
        due.is("cell(4, 0)", x.cell(4, 0), RodOwes.BAD);
        due.is("cell(3, -1)", x.cell(3, -1), RodOwes.BAD);
        due.is("cell(3, 6)", x.cell(3, 6), RodOwes.BAD);
        due.is("cell(3, 5)", x.cell(3, 5), 0);
        x.bore(0, 3, 1);
        due.is("cell(3, 4) by 1", x.cell(3, 4), 1);
        due.is("cell(3, 5) by 1", x.cell(3, 5), 0);
        x.bore(0, 3, 2);
        due.is("cell(3, 4) by 2", x.cell(3, 4), 2);
        due.is("cell(3, 5) by 2", x.cell(3, 5), 1);
    }

    private static void purse() {
        RodOwes x = Due.told("purse 3 7;");
        due.is("purse(3)", x.purse(3), 7);
        due.is("purse(4)", x.purse(4), RodOwes.BAD);
        due.is("purse(-1)", x.purse(-1), RodOwes.BAD);
    }

    private static void fault(String what, String text, int number, int place) {
        RodOwes x = new RodOwes();
        due.is(what + ": text()", Due.tell(x, text), -10 - place);
        due.is(what + ": fault()", x.fault(), number);
    }
}

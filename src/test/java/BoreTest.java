/** Promises 25 to 28: bores, plans, beds. */
public final class BoreTest {
    private static final Due due = new Due();

    public static void main(String[] args) {
        bore();
        boreAtTheEdges();
        plan();
        planTies();
        planFractions();
        beds();
        bedsOfAll();
        next();
        due.close("BoreTest");
    }

    private static void bore() {
        RodOwes x = Due.told("wet 0 3;claim 0 0;claim 1 0;purse 0 20;cost 2;price 7;");
        due.is("bore(4, 0, 1)", x.bore(4, 0, 1), RodOwes.BAD);
        due.is("bore(-1, 0, 1)", x.bore(-1, 0, 1), RodOwes.BAD);
        due.is("bore(NONE, 5, 1)", x.bore(RodOwes.NONE, 5, 1), RodOwes.BAD);
        due.is("bore(0, 9, 1)", x.bore(0, 9, 1), RodOwes.BAD);
        due.is("bore(0, 0, 0)", x.bore(0, 0, 0), RodOwes.BAD);
        due.is("bore(0, 0, 10)", x.bore(0, 0, 10), RodOwes.BAD);
        due.is("another's", x.bore(1, 0, 1), RodOwes.STATE);
        due.is("nobody's", x.bore(0, 2, 1), RodOwes.STATE);
        due.is("bore(0, 0, 2)", x.bore(0, 0, 2), 0);
        due.is("purse", x.purse(0), 16);
        due.is("less deep", x.bore(0, 0, 1), 0);
        due.is("bored as it was", x.cell(0, 4), 2);
        due.is("nothing is paid", x.purse(0), 16);
        due.is("bore(0, 0, 4)", x.bore(0, 0, 4), 1);
        due.is("4 paid, 7 gained", x.purse(0), 19);
        due.is("deeper: a well already", x.bore(0, 0, 5), 1);
        due.is("paid once", x.purse(0), 17);
        due.is("less deep: a well", x.bore(0, 0, 1), 1);
        due.is("can not pay", x.bore(0, 1, 9), RodOwes.STATE);
        due.is("purse stays", x.purse(0), 17);
        due.is("bored stays", x.cell(1, 4), 0);
        due.is("dry", x.bore(0, 1, 8), 0);
        due.is("purse at last", x.purse(0), 1);
    }

    private static void boreAtTheEdges() {
        RodOwes x = Due.told("wet 0 2;wet 1 2;claim 0 0;claim 1 0;claim 2 0;price 10;");
        x.fund(0, 2);
        due.is("all he has", x.bore(0, 0, 2), 1);
        due.is("purse", x.purse(0), 10);
        x.fund(0, 1);
        due.is("the price comes too late", x.bore(0, 1, 2), RodOwes.STATE);
        x.fund(0, 992);
        due.is("1000", x.bore(0, 1, 2), RodOwes.STATE);
        due.is("nothing bored", x.cell(1, 4), 0);
        due.is("992", x.purse(0), 992);
        x.fund(0, 991);
        due.is("999", x.bore(0, 1, 2), 1);
        due.is("purse 999", x.purse(0), 999);
        due.is("free", x.bore(0, 1, 1), 1);
        x.claim(1, 3);
        due.is("his no more", x.bore(0, 1, 1), RodOwes.STATE);
        due.is("free for one with nothing", x.bore(3, 1, 2), 1);
    }

    private static void plan() {
        RodOwes x = Due.told("claim 0 1;claim 1 1;claim 2 1;claim 3 2;odds 0 2;odds 1 9;odds 3 10;price 20;cost 1;purse 1 50;");
        due.is("plan(4)", x.plan(4, 1, 1, 0), RodOwes.BAD);
        due.is("depth 0", x.plan(1, 0, 1, 0), RodOwes.BAD);
        due.is("depth 10", x.plan(1, 10, 1, 0), RodOwes.BAD);
        due.is("n -1", x.plan(1, 1, -1, 0), RodOwes.BAD);
        due.is("n 5", x.plan(1, 1, 5, 0), RodOwes.BAD);
        due.is("what 2", x.plan(1, 1, 1, 2), RodOwes.BAD);
        due.is("what 9", x.plan(1, 1, 1, 9), RodOwes.BAD);
        due.is("what -1", x.plan(1, 1, 1, -1), RodOwes.BAD);
        mean(x, 1, 1, 0, 0, 1);
        due.is("n 0 has none", x.plan(1, 1, 0, 10), RodOwes.NONE);
        mean(x, 1, 1, 1, 17, 1);
        // 17 + 1/10 * (10 - 1), and then 1/20 * (4 - 1).
        mean(x, 1, 1, 2, 179, 10);
        mean(x, 1, 1, 3, 361, 20);
        mean(x, 1, 1, 4, 361, 20);
        int[] cells = {1, 2, 0};
        for (int i = 0; i < 3; i++) {
            due.is("cell " + i, x.plan(1, 1, 4, 10 + i), cells[i]);
        }
        due.is("not so many", x.plan(1, 1, 4, 13), RodOwes.NONE);
        due.is("cut by n", x.plan(1, 1, 2, 12), RodOwes.NONE);
        mean(x, 1, 4, 4, 73, 5);
        due.is("4 yards for odds 2 add nothing", x.plan(1, 4, 4, 12), RodOwes.NONE);
        mean(x, 0, 1, 4, 0, 1);
        mean(x, 2, 9, 4, 11, 1);
        x.bore(1, 1, 1);
        due.is("bored ones are left out", x.plan(1, 3, 4, 10), 2);
        x.odd(2, 0);
        x.odd(0, 0);
        mean(x, 1, 1, 4, 0, 1);
    }

    private static void planTies() {
        RodOwes x = Due.told("claim 8 0;claim 3 0;claim 5 0;claim 1 0;claim 0 0;odds 8 6;odds 0 1;");
        int[] cells = {8, 1, 3, 5};
        for (int i = 0; i < 4; i++) {
            due.is("ties: cell " + i, x.plan(0, 1, 4, 10 + i), cells[i]);
        }
        due.is("ties: the last of 2", x.plan(0, 1, 2, 11), 1);
        due.is("a mean of 0 is not worth a bore", x.plan(0, 5, 4, 11), RodOwes.NONE);
        x.odd(5, 10);
        x.odd(8, 10);
        due.is("a sure one alone", x.plan(0, 1, 4, 10), 5);
        due.is("none behind it", x.plan(0, 1, 4, 11), RodOwes.NONE);
    }

    private static void planFractions() {
        // 287/10 for each of four, by 7/10 for each dry one ahead: in lowest terms as it stands.
        RodOwes x = Due.told("claim 0 0;claim 1 0;claim 2 0;claim 3 0;odds 0 3;odds 1 3;odds 2 3;odds 3 3;price 99;");
        mean(x, 0, 1, 4, 726971, 10000);
        mean(x, 0, 1, 3, 62853, 1000);
        RodOwes y = Due.told("claim 0 0;odds 0 1;price 11;");
        mean(y, 0, 1, 4, 1, 10);
        due.is("a tenth is worth a bore", y.plan(0, 1, 4, 10), 0);
        mean(y, 0, 2, 4, 0, 1);
    }

    private static void mean(RodOwes x, int o, int d, int n, long above, long below) {
        String call = "plan(" + o + ", " + d + ", " + n + ")";
        due.is(call + " above", x.plan(o, d, n, 0), above);
        due.is(call + " below", x.plan(o, d, n, 1), below);
    }

    private static void beds() {
        RodOwes x = Due.told("county 2 2;wet 0 3;wet 1 3;claim 0 0;claim 1 0;claim 2 0;claim 3 0;purse 0 99;");
        due.is("beds(-1)", x.beds(-1), RodOwes.BAD);
        due.is("beds(4)", x.beds(4), RodOwes.BAD);
        due.is("all", x.beds(0), 36);
        due.is("by all", x.beds(1), 0);
        due.is("by none", x.beds(2), 0);
        due.is("deepest", x.beds(3), 9);
        x.bore(0, 0, 5);
        due.is("a well in 0 by 5", x.beds(0), 10);
        due.is("0 by all", x.beds(1), 1);
        due.is("3 by none", x.beds(2), 8);
        due.is("5 yards at most", x.beds(3), 5);
        x.bore(0, 2, 4);
        due.is("none in 2 by 4", x.beds(0), 6);
        x.bore(0, 1, 3);
        due.is("a well in 1 by 3", x.beds(0), 3);
        due.is("0 and 1 by all", x.beds(1), 3);
        due.is("2 and 3 by none", x.beds(2), 12);
        due.is("3 yards at most", x.beds(3), 3);
        x.rain(1);
        due.is("rain tells nothing", x.beds(0), 3);
    }

    private static void bedsOfAll() {
        due.is("4 by 4", Due.told("county 4 4;").beds(0), 432);
        due.is("3 by 3", new RodOwes().beds(0), 162);
        due.is("4 by 2", Due.told("county 4 2;").beds(0), 144);
        due.is("2 by 4", Due.told("county 2 4;").beds(0), 144);
        RodOwes x = Due.told("wet 0 1;wet 8 1;claim 0 0;claim 8 0;purse 0 9;");
        x.bore(0, 0, 1);
        x.bore(0, 8, 1);
        due.is("no bed", x.beds(0), 0);
        for (int what = 1; what <= 3; what++) {
            due.is("no bed (" + what + ")", x.beds(what), RodOwes.NONE);
        }
        due.is("no bed: next", x.next(9, 0), RodOwes.NONE);
    }

    private static void next() {
        RodOwes x = Due.told("county 2 2;wet 0 3;wet 1 3;claim 0 0;claim 1 0;claim 2 0;claim 3 0;purse 0 99;");
        due.is("next(0, 0)", x.next(0, 0), RodOwes.BAD);
        due.is("next(10, 0)", x.next(10, 0), RodOwes.BAD);
        due.is("next(1, 2)", x.next(1, 2), RodOwes.BAD);
        due.is("next(1, -1)", x.next(1, -1), RodOwes.BAD);
        due.is("next(9, 0)", x.next(9, 0), 0);
        due.is("next(9, 1)", x.next(9, 1), 18);
        due.is("next(2, 1)", x.next(2, 1), 32);
        x.bore(0, 0, 5);
        due.is("beside the well", x.next(9, 0), 1);
        due.is("5 of 10", x.next(9, 1), 5);
        due.is("less deep than it was: others", x.next(2, 0), 1);
        due.is("8 of 10", x.next(2, 1), 8);
        x.bore(0, 1, 3);
        due.is("3 are left", x.beds(0), 3);
        // A well in 0 and 1: the bed is those two; no bore can tell its depth but one that is not deeper.
        due.is("by none", x.next(9, 0), RodOwes.NONE);
        due.is("by none (1)", x.next(9, 1), RodOwes.NONE);
        RodOwes y = Due.told("county 2 2;claim 0 0;purse 0 99;");
        y.bore(0, 0, 5);
        due.is("dry by 5", y.beds(0), 26);
        due.is("0 to 5 again is no bore", y.next(5, 0), 3);
        due.is("16 of 26", y.next(5, 1), 16);
    }
}

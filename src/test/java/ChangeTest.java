/** Promises 9 to 17: what is changed. */
public final class ChangeTest {
    private static final Due due = new Due();

    public static void main(String[] args) {
        wet();
        iron();
        odd();
        claim();
        fund();
        cut();
        owe();
        pay();
        rain();
        due.close("ChangeTest");
    }

    private static void wet() {
        RodOwes x = Due.told("claim 4 0;purse 0 9;");
        due.is("wet(8, 9)", x.wet(8, 9), 0);
        due.is("wet(8, 0)", x.wet(8, 0), 9);
        due.is("wet(8, 10)", x.wet(8, 10), RodOwes.BAD);
        due.is("wet(8, -1)", x.wet(8, -1), RodOwes.BAD);
        due.is("wet(9, 1)", x.wet(9, 1), RodOwes.BAD);
        due.is("wet(-1, 1)", x.wet(-1, 1), RodOwes.BAD);
        due.is("cell(8, 0)", x.cell(8, 0), 0);
        x.bore(0, 4, 1);
        due.is("wet(4, 5) bored", x.wet(4, 5), RodOwes.STATE);
        due.is("wet(4, 10) bored", x.wet(4, 10), RodOwes.BAD);
        due.is("cell(4, 0)", x.cell(4, 0), 0);
    }

    private static void iron() {
        RodOwes x = new RodOwes();
        due.is("iron(0, true)", x.iron(0, true), 0);
        due.is("iron(0, true) again", x.iron(0, true), 1);
        due.is("cell(0, 1)", x.cell(0, 1), 1);
        due.is("iron(0, false)", x.iron(0, false), 1);
        due.is("cell(0, 1) then", x.cell(0, 1), 0);
        due.is("iron(9, true)", x.iron(9, true), RodOwes.BAD);
        due.is("iron(-1, true)", x.iron(-1, true), RodOwes.BAD);
    }

    private static void odd() {
        RodOwes x = new RodOwes();
        due.is("odd(3, 0)", x.odd(3, 0), 5);
        due.is("odd(3, 10)", x.odd(3, 10), 0);
        due.is("odd(3, 11)", x.odd(3, 11), RodOwes.BAD);
        due.is("odd(3, -1)", x.odd(3, -1), RodOwes.BAD);
        due.is("odd(9, 1)", x.odd(9, 1), RodOwes.BAD);
        due.is("cell(3, 2)", x.cell(3, 2), 10);
    }

    private static void claim() {
        RodOwes x = new RodOwes();
        due.is("claim(3, 0)", x.claim(3, 0), RodOwes.NONE);
        due.is("claim(3, 3)", x.claim(3, 3), 0);
        due.is("claim(3, 4)", x.claim(3, 4), RodOwes.BAD);
        due.is("claim(3, -1)", x.claim(3, -1), RodOwes.BAD);
        due.is("claim(3, -5)", x.claim(3, -5), RodOwes.BAD);
        due.is("claim(9, 0)", x.claim(9, 0), RodOwes.BAD);
        due.is("claim(3, NONE)", x.claim(3, RodOwes.NONE), 3);
        due.is("cell(3, 3)", x.cell(3, 3), RodOwes.NONE);
    }

    private static void fund() {
        RodOwes x = new RodOwes();
        due.is("fund(0, 999)", x.fund(0, 999), 0);
        due.is("fund(0, 1000)", x.fund(0, 1000), RodOwes.BAD);
        due.is("fund(0, -1)", x.fund(0, -1), RodOwes.BAD);
        due.is("fund(4, 1)", x.fund(4, 1), RodOwes.BAD);
        due.is("fund(0, 0)", x.fund(0, 0), 999);
    }

    private static void cut() {
        RodOwes x = new RodOwes();
        due.is("cut(4, 1)", x.cut(4, 1), 0);
        due.is("cut(2, 9)", x.cut(2, 9), 4);
        due.is("cut(5, 1)", x.cut(5, 1), RodOwes.BAD);
        due.is("cut(-1, 1)", x.cut(-1, 1), RodOwes.BAD);
        due.is("cut(0, 0)", x.cut(0, 0), RodOwes.BAD);
        due.is("cut(0, 10)", x.cut(0, 10), RodOwes.BAD);
        due.is("rule(4)", x.rule(4), 2);
        due.is("rule(5)", x.rule(5), 9);
    }

    private static void owe() {
        RodOwes x = new RodOwes();
        due.is("owe(0, 0, 1)", x.owe(0, 0, 1), RodOwes.BAD);
        due.is("owe(4, 0, 1)", x.owe(4, 0, 1), RodOwes.BAD);
        due.is("owe(0, 4, 1)", x.owe(0, 4, 1), RodOwes.BAD);
        due.is("owe(0, 1, 0)", x.owe(0, 1, 0), RodOwes.BAD);
        due.is("owe(0, 1, 100)", x.owe(0, 1, 100), RodOwes.BAD);
        for (int i = 1; i <= 8; i++) {
            due.is("debt " + i, x.owe(0, 1, i == 1 ? 1 : 99), i);
        }
        due.is("debt 9", x.owe(0, 1, 1), RodOwes.FULL);
        due.is("debt 9, bad first", x.owe(1, 1, 1), RodOwes.BAD);
        due.is("rule(6)", x.rule(6), 8);
    }

    private static void pay() {
        RodOwes x = Due.told("owe 0 1 5;owe 2 3 5;");
        due.is("pay(3)", x.pay(3), RodOwes.BAD);
        due.is("pay(-1)", x.pay(-1), RodOwes.BAD);
        due.is("pay(2)", x.pay(2), 2);
        due.is("crash(0)", x.crash(0), 5);
        due.is("pay(1)", x.pay(1), 2);
        due.is("crash(0), the first stays", x.crash(0), 1);
        due.is("pay(0)", x.pay(0), 1);
        due.is("rule(6)", x.rule(6), 0);
    }

    private static void rain() {
        RodOwes x = Due.told("wet 0 9;wet 1 2;wet 2 1;claim 0 1;claim 3 1;purse 1 50;");
        x.bore(1, 0, 4);
        x.bore(1, 3, 4);
        due.is("rain(9)", x.rain(9), RodOwes.BAD);
        due.is("rain(-1)", x.rain(-1), RodOwes.BAD);
        due.is("rain(0)", x.rain(0), 0);
        due.is("rain(4)", x.rain(4), 0);
        due.is("cell(0, 0)", x.cell(0, 0), 5);
        due.is("cell(1, 0)", x.cell(1, 0), 1);
        due.is("cell(2, 0)", x.cell(2, 0), 1);
        due.is("cell(3, 0)", x.cell(3, 0), 0);
        due.is("rain(1)", x.rain(1), 1);
        due.is("nobody is paid by rain", x.purse(1), 42);
        due.is("nor for the bore behind it", x.bore(1, 0, 5), 1);
        due.is("purse(1)", x.purse(1), 41);
        due.is("rain(8)", x.rain(8), 1);
        due.is("cell(0, 0) then", x.cell(0, 0), 1);
    }
}

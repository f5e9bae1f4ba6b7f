/** Promises 29 and 30: who can not pay what he owes. */
public final class DebtTest {
    private static final Due due = new Due();

    public static void main(String[] args) {
        nobody();
        roundByRound();
        aRing();
        save();
        due.close("DebtTest");
    }

    private static void nobody() {
        RodOwes x = new RodOwes();
        due.is("crash(0)", x.crash(0), 0);
        due.is("crash(1)", x.crash(1), 0);
        due.is("crash(10)", x.crash(10), RodOwes.NONE);
        due.is("crash(13)", x.crash(13), RodOwes.NONE);
        due.is("crash(14)", x.crash(14), RodOwes.BAD);
        due.is("crash(9)", x.crash(9), RodOwes.BAD);
        due.is("crash(2)", x.crash(2), RodOwes.BAD);
        due.is("crash(-1)", x.crash(-1), RodOwes.BAD);
        due.is("save(0)", x.save(0), 0);
        due.is("save(4)", x.save(4), RodOwes.BAD);
        due.is("save(-1)", x.save(-1), RodOwes.BAD);
    }

    private static void roundByRound() {
        RodOwes x = Due.told("owe 3 2 10;owe 2 1 10;owe 1 0 10;purse 3 9;");
        due.is("chain: crash(0)", x.crash(0), 14);
        due.is("chain: crash(1)", x.crash(1), 3);
        int[] rounds = {RodOwes.NONE, 3, 2, 1};
        for (int o = 0; o < 4; o++) {
            due.is("chain: round of " + o, x.crash(10 + o), rounds[o]);
        }
        x.owe(0, 3, 1);
        due.is("just enough", x.crash(0), 0);
        x.pay(3);
        x.fund(1, 9);
        due.is("what he has is not enough", x.crash(11), 3);
        x.fund(1, 10);
        due.is("he holds", x.crash(0), 12);
        due.is("two rounds", x.crash(1), 2);
        due.is("he does not", x.crash(11), RodOwes.NONE);
    }

    private static void aRing() {
        RodOwes x = Due.told("owe 0 1 50;owe 1 2 50;owe 2 3 50;owe 3 0 50;");
        due.is("a ring holds", x.crash(0), 0);
        x.owe(0, 2, 1);
        due.is("one more breaks it", x.crash(0), 15);
        due.is("round of 0", x.crash(10), 1);
        due.is("round of 1", x.crash(11), 2);
        due.is("round of 2", x.crash(12), 3);
        due.is("round of 3", x.crash(13), 4);
        due.is("four rounds", x.crash(1), 4);
        due.is("save(0)", x.save(0), 1);
        due.is("save(1)", x.save(1), RodOwes.NONE);
    }

    private static void save() {
        RodOwes x = Due.told("owe 0 1 99;owe 0 1 99;owe 0 1 99;owe 0 1 99;owe 0 1 99;owe 0 1 99;owe 0 1 99;owe 0 1 99;");
        due.is("792", x.save(0), 792);
        x.fund(0, 791);
        due.is("1", x.save(0), 1);
        x.fund(0, 792);
        due.is("0", x.save(0), 0);
        due.is("0 for others", x.save(3), 0);
        x.fund(0, 0);
        x.pay(1);
        x.owe(2, 3, 5);
        due.is("two who fail", x.save(0), RodOwes.NONE);
        due.is("two who fail, the other", x.save(2), RodOwes.NONE);
        due.is("nothing was put", x.purse(0), 0);
    }
}

/** What all tests of the project share: it prints each answer that is not the one that is due. */
final class Due {
    private int wrong;
    private int asked;

    void is(String call, long got, long want) {
        asked++;
        if (got != want) {
            wrong++;
            System.out.println(call + " answered " + got + ", due is " + want);
        }
    }

    /** Ends the test, with exit code 1 if an answer was wrong. */
    void close(String test) {
        System.out.println(test + ": " + asked + " answers, " + wrong + " not as due");
        if (wrong != 0) {
            System.exit(1);
        }
    }

    static void feed(RodOwes x, String text) {
        for (int i = 0; i < text.length(); i++) {
            if (x.feed(text.charAt(i)) < 0) {
                throw new IllegalArgumentException("not fed at " + i + ": " + text);
            }
        }
    }

    static int tell(RodOwes x, String text) {
        feed(x, text);
        return x.text();
    }

    /** A new object that was told a text, which must be taken. */
    static RodOwes told(String text) {
        RodOwes x = new RodOwes();
        int answer = tell(x, text);
        if (answer < 0) {
            throw new IllegalArgumentException("not taken (" + answer + "): " + text);
        }
        return x;
    }
}

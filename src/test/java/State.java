import java.util.ArrayList;
import java.util.List;
import java.util.function.Supplier;

/**
 * All that can be asked of an object, a row for each answer: its county, debts, what was seen, its images, its tape and
 * its sheets. What can be asked only by a change is asked of a new object each time, which a start makes alike.
 */
final class State {
    private static final int BYTES_ASKED_ONE_BY_ONE = 12;

    private final List<String> rows = new ArrayList<>();

    static List<String> of(Supplier<RodOwes> start) {
        State state = new State();
        state.county("now", start.get());
        state.debts("now", start.get());
        state.seen("now", start.get());
        for (int k = 0; k < 2; k++) {
            state.image(k, start);
        }
        state.tape(start);
        for (int k = 0; k < 4; k++) {
            state.sheet(k, start);
        }
        return state.rows;
    }

    /** The rows but those that begin with one of the words. */
    static List<String> without(List<String> rows, String... words) {
        List<String> left = new ArrayList<>(rows);
        for (String word : words) {
            left.removeIf(row -> row.startsWith(word));
        }
        return left;
    }

    private void row(String label, long answer) {
        rows.add(label + ": " + answer);
    }

    private void county(String label, RodOwes x) {
        row("fault, " + label, x.fault());
        row("torn, " + label, x.torn());
        for (int what = 0; what < 7; what++) {
            row("rule " + what + ", " + label, x.rule(what));
            row((what == 5 ? "sheet 0's count " : "count ") + what + ", " + label, x.count(what));
        }
        for (int c = 0; c < 16; c++) {
            for (int what = 0; what < 6; what++) {
                row("cell " + c + " " + what + ", " + label, x.cell(c, what));
            }
        }
        for (int o = 0; o < 4; o++) {
            row("purse " + o + ", " + label, x.purse(o));
            row("beds " + o + ", " + label, x.beds(o));
            row("crash of " + o + ", " + label, x.crash(10 + o));
        }
    }

    /** How much each OWNER lacks by the first n debts, all others being rich. */
    private void debts(String label, RodOwes x) {
        for (int n = Math.min(8, x.rule(6)); n >= 0; n--) {
            x.pay(n);
            for (int o = 0; o < 4; o++) {
                for (int other = 0; other < 4; other++) {
                    x.fund(other, other == o ? 0 : 999);
                }
                row("debts " + n + " of " + o + ", " + label, x.save(o));
            }
        }
    }

    private void seen(String label, RodOwes x) {
        for (int n = Math.min(8, x.count(2)); n >= 0; n--) {
            x.forget(n);
            row("seen " + n + ": natures, " + label, x.natures());
            row("seen " + n + ": reaches(0), " + label, x.reaches(0));
            row("seen " + n + ": reaches(4), " + label, x.reaches(4));
        }
    }

    private void image(int k, Supplier<RodOwes> start) {
        String label = "image " + k;
        RodOwes x = start.get();
        row(label, x.back(k));
        county(label, x);
        x = start.get();
        x.back(k);
        debts(label, x);
        x = start.get();
        x.back(k);
        seen(label, x);
    }

    private void tape(Supplier<RodOwes> start) {
        int size = Math.min(160, start.get().count(4));
        for (int n = Math.max(0, size - BYTES_ASKED_ONE_BY_ONE); n <= size; n++) {
            RodOwes x = start.get();
            row("tape " + n + ": end", x.end(n));
            row("tape " + n + ": text", x.text());
            row("tape " + n + ": fault", x.fault());
        }
        RodOwes x = start.get();
        x.text();
        x.fund(0, 0);
        county("told by the tape", x);
    }

    /** Its lane by the fault of a cast, its cells as bores in a county where the claims lie in turn. */
    private void sheet(int k, Supplier<RodOwes> start) {
        int of = 0;
        RodOwes x = start.get();
        for (int lane = 0; lane < 3; lane++) {
            row("sheet " + k + " as " + lane, x.read(k, lane, -1, 1));
            row("sheet " + k + " as " + lane + ": torn", x.torn());
            of = x.torn() == 3 ? of : lane;
        }
        x.end(0);
        x.text();
        for (int c = 0; c < 9; c++) {
            x.claim(c, c % 4);
        }
        for (int o = 0; o < 4; o++) {
            x.fund(o, 900);
        }
        for (int f = 0; f <= 40; f++) {
            row("sheet " + k + " from " + f, x.read(k, of, f, 1));
            row("sheet " + k + " from " + f + ": torn", x.torn());
            row("sheet " + k + " from " + f + ": purses", x.count(6));
        }
    }
}

import java.util.ArrayList;
import java.util.Arrays;
import java.util.HashSet;
import java.util.List;
import java.util.Set;
import java.util.regex.Matcher;
import java.util.regex.Pattern;

/**
 * The document told a second time, by trying out all there is (every walk, every plan, every bed, every sum to save):
 * slow, and made on purpose in another way than RodOwes.
 */
final class Model {
    static final int BAD = -1, STATE = -2, FULL = -3, NONE = -4;

    static final class County implements Cloneable {
        int wide = 3, high = 3, cost = 1, price = 10, nature = 0, reach = 9;
        int[] water = new int[16], odds = new int[16], claim = new int[16], bored = new int[16];
        boolean[] iron = new boolean[16];
        int[] purse = new int[4];
        List<int[]> debts = new ArrayList<>();
        List<int[]> seen = new ArrayList<>();

        County() {
            Arrays.fill(odds, 5);
            Arrays.fill(claim, NONE);
        }

        County copy() {
            County n = new County();
            n.wide = wide;
            n.high = high;
            n.cost = cost;
            n.price = price;
            n.nature = nature;
            n.reach = reach;
            n.water = water.clone();
            n.odds = odds.clone();
            n.claim = claim.clone();
            n.bored = bored.clone();
            n.iron = iron.clone();
            n.purse = purse.clone();
            n.debts = new ArrayList<>(debts);
            n.seen = new ArrayList<>(seen);
            return n;
        }

        int cells() {
            return wide * high;
        }

        boolean well(int c) {
            return water[c] != 0 && bored[c] >= water[c];
        }
    }

    private County now = new County();
    private final County[] images = new County[2];
    private final StringBuilder tape = new StringBuilder();
    private final Object[] sheets = new Object[4];
    private int fault;
    private int torn;

    // ---- the text

    int feed(int c) {
        if (c < 0 || c > 127) return BAD;
        if (tape.length() == 160) return FULL;
        tape.append((char) c);
        return tape.length();
    }

    int end(int n) {
        int had = tape.length();
        if (n < 0 || n > had) return BAD;
        tape.setLength(n);
        return had;
    }

    private static final Pattern TOKEN = Pattern.compile(" *(?:([a-z]+)|([0-9]+)|(;)|(.)|$)", Pattern.DOTALL);

    private static final class Fault extends Exception {
        private static final long serialVersionUID = 1L;
        final int number, place;

        Fault(int number, int place) {
            this.number = number;
            this.place = place;
        }
    }

    private Matcher tokens;

    private String token(int group) throws Fault {
        tokens.find();
        if (tokens.group(4) != null) throw new Fault(1, tokens.start(4));
        if (tokens.group(2) != null && tokens.group(2).length() > 2) throw new Fault(1, tokens.start(2));
        if (tokens.group(group) == null) throw new Fault(2, at());
        return tokens.group(group);
    }

    private int at() {
        for (int g = 1; g <= 4; g++) {
            if (tokens.group(g) != null) return tokens.start(g);
        }
        return tape.length();
    }

    private int number(int least, int most) throws Fault {
        int v = Integer.parseInt(token(2));
        if (v < least || v > most) throw new Fault(3, at());
        return v;
    }

    private int once(Set<String> told, String name, int most) throws Fault {
        int v = number(0, most);
        if (!told.add(name + v)) throw new Fault(4, at());
        return v;
    }

    private void onlyOnce(Set<String> told, String name) throws Fault {
        if (!told.add(name)) throw new Fault(4, at());
    }

    int text() {
        County draft = new County();
        Set<String> told = new HashSet<>();
        tokens = TOKEN.matcher(tape.toString());
        int lines = 0;
        try {
            while (tape.substring(lines == 0 ? 0 : tokens.end()).chars().anyMatch(c -> c != ' ')) {
                line(draft, told);
                lines++;
            }
            for (int c = draft.cells(); c < 16; c++) {
                for (String name : List.of("wet", "iron", "odds", "claim")) {
                    if (told.contains(name + c)) throw new Fault(6, tape.length());
                }
            }
            now = draft;
            images[0] = images[1] = null;
            fault = 0;
            return lines;
        } catch (Fault f) {
            fault = f.number;
            return -10 - f.place;
        } finally {
            tape.setLength(0);
        }
    }

    private void line(County d, Set<String> told) throws Fault {
        String name = token(1);
        int c;
        switch (name) {
            case "county" -> { onlyOnce(told, name); d.wide = number(2, 4); d.high = number(2, 4); }
            case "wet" -> { c = once(told, name, 15); d.water[c] = number(1, 9); }
            case "iron" -> d.iron[once(told, name, 15)] = true;
            case "odds" -> { c = once(told, name, 15); d.odds[c] = number(0, 10); }
            case "claim" -> { c = once(told, name, 15); d.claim[c] = number(0, 3); }
            case "purse" -> { c = once(told, name, 3); d.purse[c] = number(0, 99); }
            case "cost" -> { onlyOnce(told, name); d.cost = number(1, 9); }
            case "price" -> { onlyOnce(told, name); d.price = number(1, 99); }
            case "rod" -> {
                onlyOnce(told, name);
                d.nature = List.of("water", "iron", "steps", "wishes", "both").indexOf(token(1));
                if (d.nature < 0) throw new Fault(2, at());
                d.reach = number(1, 9);
            }
            case "owe" -> {
                if (d.debts.size() == 8) throw new Fault(5, at());
                int a = number(0, 3);
                int b = number(0, 3);
                if (a == b) throw new Fault(4, at());
                d.debts.add(new int[] {a, b, number(1, 99)});
            }
            default -> throw new Fault(2, at());
        }
        token(3);
    }

    int fault() {
        return fault;
    }

    int rule(int what) {
        int[] all = {now.wide, now.high, now.cost, now.price, now.nature, now.reach, now.debts.size()};
        return what >= 0 && what < all.length ? all[what] : BAD;
    }

    private boolean isCell(int c) {
        return c >= 0 && c < now.cells();
    }

    private static boolean isIn(int v, int least, int most) {
        return v >= least && v <= most;
    }

    int cell(int c, int what) {
        if (!isCell(c) || !isIn(what, 0, 5)) return BAD;
        return new int[] {now.water[c], now.iron[c] ? 1 : 0, now.odds[c], now.claim[c], now.bored[c], now.well(c) ? 1 : 0}[what];
    }

    int purse(int o) {
        return isIn(o, 0, 3) ? now.purse[o] : BAD;
    }

    // ---- what is changed

    private static int swap(int[] row, int i, int v) {
        int was = row[i];
        row[i] = v;
        return was;
    }

    int wet(int c, int v) {
        if (!isCell(c) || !isIn(v, 0, 9)) return BAD;
        return now.bored[c] != 0 ? STATE : swap(now.water, c, v);
    }

    int iron(int c, boolean is) {
        if (!isCell(c)) return BAD;
        boolean was = now.iron[c];
        now.iron[c] = is;
        return was ? 1 : 0;
    }

    int odd(int c, int v) {
        return isCell(c) && isIn(v, 0, 10) ? swap(now.odds, c, v) : BAD;
    }

    int claim(int c, int o) {
        return isCell(c) && (o == NONE || isIn(o, 0, 3)) ? swap(now.claim, c, o) : BAD;
    }

    int fund(int o, int v) {
        return isIn(o, 0, 3) && isIn(v, 0, 999) ? swap(now.purse, o, v) : BAD;
    }

    int cut(int nature, int reach) {
        if (!isIn(nature, 0, 4) || !isIn(reach, 1, 9)) return BAD;
        int was = now.nature;
        now.nature = nature;
        now.reach = reach;
        return was;
    }

    int owe(int a, int b, int v) {
        if (!isIn(a, 0, 3) || !isIn(b, 0, 3) || a == b || !isIn(v, 1, 99)) return BAD;
        if (now.debts.size() == 8) return FULL;
        now.debts.add(new int[] {a, b, v});
        return now.debts.size();
    }

    private static int cutTo(List<int[]> list, int n) {
        int had = list.size();
        if (n < 0 || n > had) return BAD;
        list.subList(n, had).clear();
        return had;
    }

    int pay(int n) {
        return cutTo(now.debts, n);
    }

    int rain(int v) {
        if (!isIn(v, 0, 8)) return BAD;
        for (int yard = 0; yard < v; yard++) {
            for (int c = 0; c < 16; c++) {
                if (now.water[c] > 1) now.water[c]--;
            }
        }
        return count(0);
    }

    // ---- the rod

    private boolean twitches(int nature, int reach, int c, int o, int step) {
        if (nature == 4) return twitches(0, reach, c, o, step) || twitches(1, reach, c, o, step);
        return nature == 0 ? isIn(now.water[c], 1, reach) : nature == 1 ? now.iron[c]
            : nature == 2 ? step % 2 == 1 : now.claim[c] == o;
    }

    int twitch(int c, int o, int step) {
        if (!isCell(c) || !isIn(o, 0, 3) || !isIn(step, 1, 9)) return BAD;
        return twitches(now.nature, now.reach, c, o, step) ? 1 : 0;
    }

    int see(int c, int o, int step, boolean is) {
        if (!isCell(c) || !isIn(o, 0, 3) || !isIn(step, 1, 9)) return BAD;
        if (now.seen.size() == 8) return FULL;
        now.seen.add(new int[] {c, o, step, is ? 1 : 0});
        return now.seen.size();
    }

    int forget(int n) {
        return cutTo(now.seen, n);
    }

    private boolean fits(int nature, int reach) {
        for (int[] s : now.seen) {
            if (twitches(nature, reach, s[0], s[1], s[2]) != (s[3] == 1)) return false;
        }
        return true;
    }

    private List<int[]> rods() {
        List<int[]> rods = new ArrayList<>();
        for (int nature = 0; nature < 5; nature++) {
            for (int reach = 1; reach <= (nature % 4 == 0 ? 9 : 1); reach++) {
                if (fits(nature, reach)) rods.add(new int[] {nature, reach});
            }
        }
        return rods;
    }

    int natures() {
        int bits = 0;
        for (int[] rod : rods()) bits |= 1 << rod[0];
        return bits;
    }

    int reaches(int nature) {
        if (!isIn(nature, 0, 4)) return BAD;
        int bits = 0;
        for (int reach = 1; reach <= 9; reach++) {
            if (fits(nature, reach)) bits |= 1 << reach;
        }
        return bits;
    }

    int test(int o, int what) {
        if (!isIn(o, 0, 3) || !isIn(what, 0, 1)) return BAD;
        List<int[]> rods = rods();
        int[] best = {NONE, rods.size()};
        for (int key = 0; key < 10 * now.cells(); key++) {
            int step = key % 10;
            if (step != 1 && step != 2) continue;
            int yes = 0, no = 0;
            for (int[] rod : rods) {
                if (twitches(rod[0], rod[1], key / 10, o, step)) yes++;
                else no++;
            }
            if (Math.max(yes, no) < best[1]) best = new int[] {key, Math.max(yes, no)};
        }
        return best[0] == NONE ? NONE : best[what];
    }

    private int mostShown;
    private List<Integer> mostWalk;

    private boolean beside(int a, int b) {
        int dx = Math.abs(a % now.wide - b % now.wide), dy = Math.abs(a / now.wide - b / now.wide);
        return dx + dy == 1;
    }

    private void walkOn(List<Integer> walk, int o, int n) {
        if (walk.size() < n) {
            for (int c = 0; c < now.cells(); c++) {
                if (beside(walk.get(walk.size() - 1), c)) {
                    walk.add(c);
                    walkOn(walk, o, n);
                    walk.remove(walk.size() - 1);
                }
            }
            return;
        }
        int shown = 10;
        for (int i = 0; i < n; i++) {
            shown += 2 * twitch(walk.get(i), o, i + 1) - (now.water[walk.get(i)] > 0 ? 1 : 0);
        }
        if (mostWalk == null || shown > mostShown) {
            mostShown = shown;
            mostWalk = new ArrayList<>(walk);
        }
    }

    int show(int c, int o, int n, int what) {
        if (!isCell(c) || !isIn(o, 0, 3) || !isIn(n, 1, 6) || what != 0 && !isIn(what, 10, 9 + n)) return BAD;
        mostWalk = null;
        walkOn(new ArrayList<>(List.of(c)), o, n);
        return what == 0 ? mostShown : mostWalk.get(what - 10);
    }

    // ---- bores

    int bore(int o, int c, int d) {
        if (!isIn(o, 0, 3) || !isCell(c) || !isIn(d, 1, 9)) return BAD;
        County then = now.copy();
        if (then.claim[c] != o) return STATE;
        boolean was = then.well(c);
        while (then.bored[c] < d) {
            then.bored[c]++;
            then.purse[o] -= then.cost;
        }
        if (then.purse[o] < 0) return STATE;
        if (!was && then.well(c)) then.purse[o] += then.price;
        if (then.purse[o] > 999) return STATE;
        now = then;
        return now.well(c) ? 1 : 0;
    }

    private long bestMean;
    private List<Integer> bestPlan;

    /** The mean in parts of 10 to the 4th, by all ways that it can come out. */
    private long meanOf(List<Integer> plan, int d) {
        long mean = 0;
        long dry = 1;
        long parts = 10000;
        int costs = 0;
        for (int c : plan) {
            costs += d * now.cost;
            parts /= 10;
            mean += dry * now.odds[c] * parts * (now.price - costs);
            dry *= 10 - now.odds[c];
        }
        return mean - dry * parts * costs;
    }

    private void planOn(List<Integer> plan, int o, int d, int length) {
        if (plan.size() == length) {
            long mean = meanOf(plan, d);
            if (bestPlan == null || mean > bestMean) {
                bestMean = mean;
                bestPlan = new ArrayList<>(plan);
            }
            return;
        }
        for (int c = 0; c < now.cells(); c++) {
            if (now.claim[c] == o && now.bored[c] == 0 && !plan.contains(c)) {
                plan.add(c);
                planOn(plan, o, d, length);
                plan.remove(plan.size() - 1);
            }
        }
    }

    long plan(int o, int d, int n, int what) {
        if (!isIn(o, 0, 3) || !isIn(d, 1, 9) || !isIn(n, 0, 4) || what < 0 || isIn(what, 2, 9)) return BAD;
        bestPlan = null;
        for (int length = 0; length <= n; length++) planOn(new ArrayList<>(), o, d, length);
        if (what >= 10) return what - 10 < bestPlan.size() ? bestPlan.get(what - 10) : NONE;
        long below = 1;
        while (bestMean * below % 10000 != 0) below++;
        return what == 0 ? bestMean * below / 10000 : below;
    }

    // ---- beds

    private static final class Bed {
        final Set<Integer> cells = new HashSet<>();
        int depth;
    }

    private List<Bed> fittingBeds() {
        List<Bed> beds = new ArrayList<>();
        for (int a = 0; a < now.cells(); a++) {
            for (int b = a + 1; b < now.cells(); b++) {
                boolean row = a / now.wide == b / now.wide, column = a % now.wide == b % now.wide;
                for (int depth = 1; depth <= 9 && (row || column); depth++) {
                    Bed bed = new Bed();
                    for (int c = a; c <= b; c += row ? 1 : now.wide) bed.cells.add(c);
                    bed.depth = depth;
                    boolean fits = true;
                    for (int c = 0; c < now.cells(); c++) {
                        if (now.bored[c] > 0) fits &= now.well(c) == (bed.cells.contains(c) && depth <= now.bored[c]);
                    }
                    if (fits) beds.add(bed);
                }
            }
        }
        return beds;
    }

    int beds(int what) {
        if (!isIn(what, 0, 3)) return BAD;
        List<Bed> beds = fittingBeds();
        if (what == 0) return beds.size();
        if (beds.isEmpty()) return NONE;
        int all = 0, none = 0, deepest = 0;
        for (Bed bed : beds) deepest = Math.max(deepest, bed.depth);
        for (int c = 0; c < now.cells(); c++) {
            int with = 0;
            for (Bed bed : beds) with += bed.cells.contains(c) ? 1 : 0;
            if (with == beds.size()) all |= 1 << c;
            if (with == 0) none |= 1 << c;
        }
        return what == 1 ? all : what == 2 ? none : deepest;
    }

    int next(int d, int what) {
        if (!isIn(d, 1, 9) || !isIn(what, 0, 1)) return BAD;
        List<Bed> beds = fittingBeds();
        int[] best = {NONE, beds.size()};
        for (int c = 0; c < now.cells(); c++) {
            int yes = 0, no = 0;
            for (Bed bed : beds) {
                if (bed.cells.contains(c) && bed.depth <= d) yes++;
                else no++;
            }
            if (d > now.bored[c] && Math.max(yes, no) < best[1]) best = new int[] {c, Math.max(yes, no)};
        }
        return best[0] == NONE ? NONE : best[what];
    }

    // ---- debts

    /** In which round each OWNER FAILS, 0 for never, with so much more in the PURSE of one. */
    private int[] rounds(int o, int more) {
        int[] round = new int[4];
        for (int r = 1; r <= 9; r++) {
            for (int a = 0; a < 4; a++) {
                int has = now.purse[a] + (a == o ? more : 0), owes = 0;
                for (int[] debt : now.debts) {
                    if (debt[0] == a) owes += debt[2];
                    boolean stood = round[debt[0]] == 0 || round[debt[0]] == r;
                    if (debt[1] == a && stood) has += debt[2];
                }
                if (round[a] == 0 && has < owes) round[a] = r;
            }
        }
        return round;
    }

    int crash(int what) {
        if (!isIn(what, 0, 1) && !isIn(what, 10, 13)) return BAD;
        int[] round = rounds(0, 0);
        if (what >= 10) return round[what - 10] == 0 ? NONE : round[what - 10];
        int bits = 0, most = 0;
        for (int o = 0; o < 4; o++) {
            bits |= round[o] > 0 ? 1 << o : 0;
            most = Math.max(most, round[o]);
        }
        return what == 0 ? bits : most;
    }

    int save(int o) {
        if (!isIn(o, 0, 3)) return BAD;
        for (int more = 0; more <= 999; more++) {
            if (Arrays.equals(rounds(o, more), new int[4])) return more;
        }
        return NONE;
    }

    // ---- by a seed

    int luck(int seed, int n) {
        if (!isIn(n, 1, 60)) return BAD;
        County then = now.copy();
        long s = seed;
        for (int i = 0; i < n; i++) {
            s = (s * 1103515245L + 12345L) & 0xFFFFFFFFL;
            int c = (int) ((s >> 16 & 32767) % then.cells());
            s = (s * 1103515245L + 12345L) & 0xFFFFFFFFL;
            then.bored[c] = Math.max(then.bored[c], (int) ((s >> 16 & 32767) % 9) + 1);
        }
        int wells = 0;
        for (int c = 0; c < then.cells(); c++) wells += then.well(c) ? 1 : 0;
        return wells;
    }

    // ---- images, sheets

    int keep(int k) {
        if (!isIn(k, 0, 1)) return BAD;
        int was = images[k] == null ? 0 : 1;
        images[k] = now.copy();
        return was;
    }

    int back(int k) {
        if (!isIn(k, 0, 1)) return BAD;
        if (images[k] == null) return STATE;
        now = images[k].copy();
        return count(0);
    }

    int sheet(int k, int lane, int n) {
        if (!isIn(k, 0, 3) || !isIn(lane, 0, 2) || n > 40) return BAD;
        try {
            sheets[k] = lane == 0 ? new byte[n] : lane == 1 ? new short[n] : new int[n];
            return 1;
        } catch (NegativeArraySizeException e) {
            return -14;
        }
    }

    int lay(int k, int i, int v) {
        if (!isIn(k, 0, 3)) return BAD;
        try {
            if (sheets[k] instanceof byte[] row) row[i] = (byte) v;
            else if (sheets[k] instanceof short[] row) row[i] = (short) v;
            else ((int[]) sheets[k])[i] = v;
            return 1;
        } catch (NullPointerException e) {
            return -11;
        } catch (ArrayIndexOutOfBoundsException e) {
            return -12;
        }
    }

    /** By the machine itself: here it may find its faults. */
    int read(int k, int lane, int f, int n) {
        if (!isIn(k, 0, 3) || !isIn(lane, 0, 2) || !isIn(n, 0, 13)) return BAD;
        List<int[]> whole = new ArrayList<>();
        int found = 0;
        try {
            byte[] bytes = lane == 0 ? (byte[]) sheets[k] : null;
            short[] shorts = lane == 1 ? (short[]) sheets[k] : null;
            int[] ints = lane == 2 ? (int[]) sheets[k] : null;
            for (int i = 0; i < n; i++) {
                int[] b = new int[3];
                for (int j = 0; j < 3; j++) {
                    int at = f + 3 * i + j;
                    b[j] = lane == 0 ? bytes[at] : lane == 1 ? shorts[at] : ints[at];
                }
                whole.add(b);
            }
        } catch (NullPointerException e) {
            found = 1;
        } catch (ArrayIndexOutOfBoundsException e) {
            found = 2;
        } catch (ClassCastException e) {
            found = 3;
        }
        County before = now.copy();
        for (int i = 0; i < whole.size(); i++) {
            int[] b = whole.get(i);
            if (bore(b[0], b[1], b[2]) < 0) {
                now = before;
                return -20 - i;
            }
        }
        torn = found;
        return whole.size();
    }

    int torn() {
        return torn;
    }

    int count(int what) {
        if (!isIn(what, 0, 6)) return BAD;
        int wells = 0, bored = 0;
        for (int c = 0; c < now.cells(); c++) {
            wells += now.well(c) ? 1 : 0;
            bored += now.bored[c] > 0 ? 1 : 0;
        }
        int size = sheets[0] == null ? NONE : java.lang.reflect.Array.getLength(sheets[0]);
        int kept = (images[0] == null ? 0 : 1) + (images[1] == null ? 0 : 1);
        return new int[] {wells, bored, now.seen.size(), kept, tape.length(), size, Arrays.stream(now.purse).sum()}[what];
    }
}

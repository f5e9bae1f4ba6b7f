import java.lang.reflect.InvocationTargetException;
import java.lang.reflect.Method;
import java.util.ArrayList;
import java.util.Arrays;
import java.util.List;
import java.util.Random;

/** Runs of calls by seeds, ordinary ones and wild ones: RodOwes answers as the slow Model does, and never throws. */
public final class ModelTest {
    private static final int RUNS = 1500;
    private static final int CALLS = 300;
    private static final int[] WILD = {Integer.MIN_VALUE, Integer.MIN_VALUE + 1, -5, -4, -3, -2, -1, 0, 1, 2, 3, 4, 5, 8,
        9, 10, 11, 12, 13, 14, 15, 16, 17, 20, 39, 40, 41, 60, 61, 99, 100, 127, 128, 160, 161, 255, 256, 998, 999, 1000,
        65535, 65536, Integer.MAX_VALUE - 1, Integer.MAX_VALUE};

    private static final Due due = new Due();

    public static void main(String[] args) throws Exception {
        List<Method> calls = new ArrayList<>();
        for (Method m : RodOwes.class.getDeclaredMethods()) {
            if (java.lang.reflect.Modifier.isPublic(m.getModifiers())) {
                calls.add(m);
            }
        }
        calls.sort((a, b) -> a.getName().compareTo(b.getName()));
        due.is("public methods", calls.size(), 37);
        for (int run = 0; run < RUNS; run++) {
            new Run(run).go(calls);
        }
        due.close("ModelTest");
    }

    private static final class Run {
        private final int number;
        private final Random random;
        private final boolean wild;
        private final RodOwes x = new RodOwes();
        private final Model y = new Model();

        Run(int number) {
            this.number = number;
            this.random = new Random(number);
            this.wild = number % 4 == 3;
        }

        void go(List<Method> calls) throws Exception {
            if (number % 3 != 0) {
                text(goodText());
                endow();
            }
            for (int i = 0; i < CALLS; i++) {
                Method m = calls.get(random.nextInt(calls.size()));
                String name = m.getName();
                if (name.equals("feed") && random.nextInt(4) != 0) {
                    if (random.nextInt(wild ? 3 : 8) == 0) {
                        text(random.nextBoolean() ? goodText() : brokenText());
                    }
                } else if ((name.equals("text") || name.equals("wet")) && random.nextInt(6) != 0) {
                    bores();
                } else {
                    call(m, arguments(m));
                }
            }
        }

        private int pick(int least, int most) {
            return least + random.nextInt(most - least + 1);
        }

        private void call(Method m, Object[] args) throws Exception {
            Method other = Model.class.getDeclaredMethod(m.getName(), m.getParameterTypes());
            String told = "run " + number + ": " + m.getName() + Arrays.toString(args);
            try {
                long got = ((Number) m.invoke(x, args)).longValue();
                due.is(told, got, ((Number) other.invoke(y, args)).longValue());
            } catch (InvocationTargetException e) {
                System.out.println(told + " threw " + e.getCause());
                due.is(told, 0, 1);
            }
        }

        private void call(String name, Object... args) throws Exception {
            for (Method m : RodOwes.class.getDeclaredMethods()) {
                if (m.getName().equals(name)) {
                    call(m, args);
                }
            }
        }

        private Object[] arguments(Method m) {
            Object[] args = new Object[m.getParameterCount()];
            int[] ordinary = ordinary(m.getName());
            for (int i = 0; i < args.length; i++) {
                if (m.getParameterTypes()[i] == boolean.class) {
                    args[i] = random.nextBoolean();
                } else if (random.nextInt(wild ? 4 : 30) == 0) {
                    args[i] = WILD[random.nextInt(WILD.length)];
                } else {
                    args[i] = ordinary[i];
                }
            }
            return args;
        }

        private int what(int tens, int... small) {
            return tens > 0 && random.nextBoolean() ? pick(10, 9 + tens) : small[random.nextInt(small.length)];
        }

        /** Numbers that are mostly as told. */
        private int[] ordinary(String name) {
            int c = pick(0, y.rule(0) * y.rule(1) - 1);
            int o = pick(0, 3);
            int d = pick(1, 9);
            return switch (name) {
                case "feed" -> new int[] {pick(32, 122)};
                case "end" -> new int[] {pick(0, Math.max(0, y.count(4)))};
                case "rule", "count" -> new int[] {pick(0, 6)};
                case "cell" -> new int[] {c, pick(0, 5)};
                case "purse", "save" -> new int[] {o};
                case "wet" -> new int[] {c, pick(0, 9)};
                case "iron" -> new int[] {c, 0};
                case "odd" -> new int[] {c, pick(0, 10)};
                case "claim" -> new int[] {c, random.nextInt(5) == 0 ? -4 : o};
                case "fund" -> new int[] {o, random.nextInt(6) == 0 ? pick(900, 999) : pick(0, 120)};
                case "cut" -> new int[] {pick(0, 4), d};
                case "owe" -> new int[] {o, pick(0, 3), pick(1, 99)};
                case "pay" -> new int[] {pick(0, y.rule(6))};
                case "rain" -> new int[] {random.nextInt(3) == 0 ? pick(0, 8) : pick(0, 1)};
                case "twitch", "see" -> new int[] {c, o, pick(1, 9), 0};
                case "forget" -> new int[] {pick(0, y.count(2))};
                case "reaches" -> new int[] {pick(0, 4)};
                case "test" -> new int[] {o, pick(0, 1)};
                case "show" -> {
                    int n = pick(1, 6);
                    yield new int[] {c, o, n, what(n, 0)};
                }
                case "bore" -> new int[] {owner(c, o), c, d};
                case "plan" -> new int[] {o, random.nextBoolean() ? pick(1, 3) : d, pick(0, 4), what(5, 0, 1)};
                case "beds" -> new int[] {pick(0, 3)};
                case "next" -> new int[] {d, pick(0, 1)};
                case "crash" -> new int[] {what(4, 0, 1)};
                case "luck" -> new int[] {random.nextInt(), pick(1, 60)};
                case "keep", "back" -> new int[] {pick(0, 1)};
                case "sheet" -> new int[] {pick(0, 3), pick(0, 2), pick(-1, 40)};
                case "lay" -> new int[] {pick(0, 3), pick(0, 39), pick(-2, 15)};
                case "read" -> new int[] {pick(0, 3), pick(0, 2), pick(-1, 38), pick(0, 13)};
                default -> new int[0];
            };
        }

        private int owner(int c, int o) {
            int claim = y.cell(c, 3);
            return claim >= 0 && random.nextInt(8) != 0 ? claim : o;
        }

        private void endow() throws Exception {
            for (int o = 0; o < 4; o++) {
                call("fund", o, pick(0, 200));
            }
        }

        /** A sheet with bores that mostly come, read at once. */
        private void bores() throws Exception {
            int k = pick(0, 3);
            int lane = pick(0, 2);
            int n = pick(1, 5);
            int size = 3 * n + pick(-1, 2);
            call("sheet", k, lane, size);
            for (int i = 0; i < n; i++) {
                int[] b = ordinary("bore");
                for (int j = 0; j < 3; j++) {
                    int over = random.nextInt(6) == 0 ? 65536 : 0;
                    call("lay", k, 3 * i + j, b[j] + over);
                }
            }
            call("read", k, random.nextInt(6) == 0 ? pick(0, 2) : lane, 0, n + (random.nextInt(4) == 0 ? 1 : 0));
            call("torn");
            for (int what = 0; what < 4; what++) {
                call("beds", what);
            }
        }

        private void text(String text) throws Exception {
            call("end", 0);
            for (int i = 0; i < text.length(); i++) {
                call("feed", (int) text.charAt(i));
            }
            call("text");
            call("fault");
            for (int what = 0; what < 7; what++) {
                call("rule", what);
            }
        }

        private String goodText() {
            int wide = pick(2, 4);
            int high = pick(2, 4);
            int[] order = random.ints(0, 1 << 20).limit(60).toArray();
            List<String> lines = new ArrayList<>();
            lines.add("county " + wide + " " + high + ";");
            for (int c = 0; c < wide * high; c++) {
                if (order[c] % 3 == 0) lines.add("wet " + c + " " + pick(1, 9) + ";");
                if (order[c] % 7 == 0) lines.add("iron " + c + ";");
                if (order[c] % 5 == 0) lines.add("odds " + c + " " + pick(0, 10) + ";");
                if (order[c] % 2 == 0) lines.add("claim " + c + " " + pick(0, 1) + ";");
            }
            for (int o = 0; o < 4; o++) {
                if (order[40 + o] % 2 == 0) lines.add("purse " + o + " " + pick(0, 99) + ";");
                if (order[50 + o] % 3 == 0) lines.add("owe " + o + " " + (o + pick(1, 3)) % 4 + " " + pick(1, 99) + ";");
            }
            if (random.nextBoolean()) lines.add("cost " + pick(1, 9) + ";");
            if (random.nextBoolean()) lines.add("price " + pick(1, 99) + " ;");
            String[] names = {"water", "iron", "steps", "wishes", "both"};
            if (random.nextBoolean()) lines.add("  rod " + names[pick(0, 4)] + " " + pick(1, 9) + ";");
            String first = lines.get(0);
            java.util.Collections.shuffle(lines.subList(1, lines.size()), random);
            StringBuilder text = new StringBuilder();
            for (String line : lines) {
                if (text.length() + line.length() <= 160) text.append(line);
            }
            return text.toString().isEmpty() ? first : text.toString();
        }

        private String brokenText() {
            String[] pieces = {"county", "wet", "iron", "odds", "claim", "purse", "cost", "price", "rod", "owe", "water",
                "both", "x", "0", "1", "2", "3", "10", "16", "99", "100", "007", "$", ";", ";;", " ", "\0", "W"};
            StringBuilder text = new StringBuilder(random.nextBoolean() ? goodText() : "");
            int changes = pick(1, 4);
            for (int i = 0; i < changes; i++) {
                int at = pick(0, text.length());
                int to = Math.min(text.length(), at + pick(0, 3));
                String piece = pieces[random.nextInt(pieces.length)];
                text.replace(at, to, random.nextInt(5) == 0 ? "" : random.nextBoolean() ? piece : " " + piece + " ");
            }
            String lines = "wet 1 1;iron 1;owe 0 1 1;owe 1 2 3;cost 1;";
            return random.nextInt(4) == 0 ? lines + text : text.toString();
        }
    }
}

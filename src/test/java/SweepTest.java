import java.lang.reflect.Method;
import java.util.Arrays;
import java.util.HashMap;
import java.util.Map;

/**
 * Every call with every join of numbers at, one below and one beyond each bound, in states of each sort, on the program
 * and on PlainPull side by side; and texts with every token in every place.
 */
public final class SweepTest extends Bench {
    private static final int CALLS = 480;
    private static final int[] FAR = {LOW, -1000001, -1, 0, 1, HIGH};
    private static final Map<String, Method> OURS = methods(SeamPull.class), PLAIN = methods(PlainPull.class);
    private static final String[] TEXTS = {"", "panel 4;", "panel 12;seam on 11 20;",
        "panel 4;seam on 1 9 clamp 2 flame 2 7;seam turned 1 6 wait 2;seam skip 0 5 free 2;before 0 2;",
        "panel 5;seam tack 0 1 back 4 20;seam second 0 3;before 0 1;before 1 0;"};
    private static final String[] TOKENS = {"panel", "seam", "before", "on", "flame", "wait", "clamp", "free", "of", "0", "1", "3", "4",
        "12", "13", "20", "21", "30", "31", "99", "007", ";", ";;", "?", "\u0000", "\n", ""};
    private SeamPull ours;
    private PlainPull plain;
    private final int state;
    private int calls;

    private SweepTest(int state) {
        this.state = state;
        layOut();
    }

    private static Map<String, Method> methods(Class<?> face) {
        Map<String, Method> all = new HashMap<>();
        for (Method m : face.getDeclaredMethods()) {
            all.putIfAbsent(m.getName() + m.getParameterCount(), m);
        }
        return all;
    }

    public static void main(String[] args) throws Exception {
        about("beside PlainPull");
        for (int state = 0; state < 2 * TEXTS.length; state++) {
            new SweepTest(state).sweepAll();
        }
        everyTokenEverywhere();
        end("SweepTest");
    }

    private void layOut() {
        ours = new SeamPull();
        plain = new PlainPull();
        calls = 0;
        String text = TEXTS[state / 2];
        for (int i = 0; i < text.length(); i++) {
            ours.feed(text.charAt(i), 1);
            plain.feed(text.charAt(i), 1);
        }
        boolean has = !text.isEmpty();
        int[][] sheets = {{0, 2, 5}, {1, 2, 40}, {2, 0, 0}, {7, 1, 13}};
        for (int[] s : sheets) {
            ours.sheet(s[0], s[1], s[2]);
            plain.sheet(s[0], s[1], s[2]);
        }
        int[] items = {1, 2, 0, 9999, -9999};
        for (int i = 0; i < items.length; i++) {
            ours.set(0, i, items[i]);
            plain.set(0, i, items[i]);
        }
        if (has) {
            ours.plan();
            plain.plan();
            ours.open(0, 7);
            plain.open(0, 7);
        }
        if (has && state % 2 == 1) {
            ours.runs();
            plain.runs();
        }
        calls += text.length() + 20;
    }

    private static Object[] fitted(Method m, int... args) {
        Object[] all = new Object[args.length];
        for (int k = 0; k < args.length; k++) {
            boolean wide = m.getParameterTypes()[k] == long.class;
            if (wide) {
                all[k] = (long) args[k];
            } else {
                all[k] = args[k];
            }
        }
        return all;
    }

    private void same(String name, int... args) throws Exception {
        if (++calls > CALLS) {
            layOut();
        }
        Method m = OURS.get(name + args.length), p = PLAIN.get(name + args.length);
        int got = (Integer) m.invoke(ours, fitted(m, args)), want = (Integer) p.invoke(plain, fitted(p, args));
        due("state " + state + ", " + name + Arrays.toString(args), got, want);
        due("status behind " + name + Arrays.toString(args), ours.status(), plain.status());
        calls++;
    }

    /** Of so many arguments each out of its own row. */
    private void sweep(String name, int[]... rows) throws Exception {
        int[] at = new int[rows.length], args = new int[rows.length];
        boolean more = true;
        while (more) {
            for (int k = 0; k < rows.length; k++) {
                args[k] = rows[k][at[k]];
            }
            same(name, args);
            more = false;
            for (int k = rows.length - 1; k >= 0 && !more; k--) {
                at[k]++;
                more = at[k] < rows[k].length;
                if (!more) {
                    at[k] = 0;
                }
            }
        }
        layOut();
    }

    private static int[] with(int... more) {
        int[] all = Arrays.copyOf(FAR, FAR.length + more.length);
        System.arraycopy(more, 0, all, FAR.length, more.length);
        return all;
    }

    private void sweepAll() throws Exception {
        int[] sheets = with(2, 3, 7, 8), places = with(4, 5, 6, 27, 28, 39, 40, 41), whats = with(-2, 2, 3, 4, 5, 6, 11, 12, 13);
        int[] few = {-1, 0, 1, 2, 3, 7, 8}, spans = {LOW, -1, 0, 1, 5, 6, HIGH};
        int[] numbers = with(2, 3, 4, 5, 6, 7, 8, 9, 10, 11, 12, 39, 40);
        sweep("copy", few, spans, few, spans, spans);
        sweep("sheet", sheets, with(2, 3), with(39, 40, 41));
        sweep("set", sheets, places, with(127, 128, -128, -129, 32767, 32768, -32768, -32769));
        sweep("drop", sheets);
        sweep("feed", with(' ', 'p'), with(2, 7, 8, 9));
        sweep("act", numbers, with(2, 3, 4));
        sweep("run", sheets, places);
        sweep("cell", with(3, 4, 5, 11, 12), with(2, 3, 4));
        sweep("height", with(3, 4, 5, 6, 12, 13));
        sweep("gives", with(2, 3, 6));
        sweep("best", with(-2, 2, 3, 6));
        sweep("beforehand", with(3, 4, 5, 11, 12));
        sweep("spots", with(2, 19, 20, 21), with(7, 39, 40, 41));
        sweep("crack", with(20, 40, 59, 60, 61));
        sweep("wire", sheets, places, whats);
        sweep("kind", numbers);
        sweep("as", numbers, with(2, 3, 4, 5, 6, 7, 8));
        sweep("ask", numbers, with(2));
        sweep("trace", with(2, 4, 15, 16));
        sweep("count", with(2, 3, 4, 5, 6));
        sweep("open", with(3, 4, 5, 11, 12), with(-41, -40, 40, 41));
        String[] plainAsks = {"runs", "minutes", "orders", "warm", "fault", "status", "plan", "runs", "minutes"};
        for (String name : plainAsks) {
            same(name);
        }
    }

    /** In a whole text each token is left out, put in place of another, and put ahead of it. */
    private static void everyTokenEverywhere() {
        String[] parts = ("panel 4 ; seam on 3 20 wait 30 ; seam clamp 0 free 3 flame 1 1 ; seam ; before 0 1 ; before 2 0 ;").split(" ");
        for (int at = 0; at <= parts.length; at++) {
            for (String token : TOKENS) {
                StringBuilder instead = new StringBuilder(), ahead = new StringBuilder();
                for (int k = 0; k < parts.length; k++) {
                    instead.append(k == at ? token : parts[k]).append(' ');
                    ahead.append(k == at ? token + " " : "").append(parts[k]).append(' ');
                }
                sameFault(instead.toString());
                sameFault(ahead.toString());
                sameFault(instead.toString().trim());
            }
        }
    }

    private static void sameFault(String text) {
        SeamPull ours = new SeamPull();
        PlainPull plain = new PlainPull();
        for (int i = 0; i < text.length(); i++) {
            ours.feed(text.charAt(i), 1);
            plain.feed(text.charAt(i), 1);
        }
        due("plan of '" + text + "'", ours.plan(), plain.plan());
        due("fault of '" + text + "'", ours.fault(), plain.fault());
        for (int what = 0; what <= 5; what++) {
            due("count of '" + text + "'", ours.count(what), plain.count(what));
        }
    }
}

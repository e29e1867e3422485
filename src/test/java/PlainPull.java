import java.util.ArrayList;
import java.util.Arrays;
import java.util.List;
import java.util.regex.Matcher;
import java.util.regex.Pattern;

/**
 * The document once more, in the plainest form and without thrift: every minute is walked, every order is run
 * whole, every ask goes through real classes. The tests hold the program against it.
 */
final class PlainPull {
    static final int NONE = -1000000, BAD = -1000001, STATE = -1000002, FULL = -1000003;
    private static final List<String> WORDS = List.of("tack", "on", "back", "skip", "second", "turned", "flame", "wait", "clamp", "free");

    record Act(int kind, int place, int strength, int seam) { }

    static final class Text {
        int cells;
        int seams;
        List<Act> acts = new ArrayList<>();
        List<int[]> befores = new ArrayList<>();
    }

    static final class Fault extends RuntimeException {
        private static final long serialVersionUID = 1;
        final int place, number;
        Fault(int place, int number) { this.place = place; this.number = number; }
    }

    /** What a run leaves. */
    static final class State {
        int[] heat, hold, bend, spring, pull;
        boolean[] clamped;
        int minutes;
    }

    private final int[][] sheets = new int[8][];
    private final int[] lanes = new int[8];
    private String tape = "";
    private Text text;
    private int[] set;
    private State state;
    private List<Integer> order;
    private boolean ran;
    private int fault, status;
    private final List<Integer> trace = new ArrayList<>();

    private int finding(int n) { status = n; return -1000010 - n; }
    private int ok(int v) { status = 0; return v; }
    private static boolean out(int v, int lo, int hi) { return v < lo || v > hi; }

    int sheet(int s, int lane, int n) {
        if (out(s, 0, 7) || out(lane, 0, 2) || n > 40) return BAD;
        if (n < 0) return finding(4);
        sheets[s] = new int[n];
        lanes[s] = lane;
        return ok(n);
    }

    int set(int s, int i, int v) {
        if (out(s, 0, 7)) return BAD;
        if (sheets[s] == null) return finding(1);
        if (out(i, 0, sheets[s].length - 1)) return finding(2);
        sheets[s][i] = lanes[s] == 0 ? (byte) v : lanes[s] == 1 ? (short) v : v;
        return ok(sheets[s][i]);
    }

    int copy(int a, int i, int b, int j, int n) {
        if (out(a, 0, 7) || out(b, 0, 7)) return BAD;
        if (sheets[a] == null || sheets[b] == null) return finding(1);
        if (lanes[a] != lanes[b]) return finding(5);
        if (i < 0 || j < 0 || n < 0 || (long) i + n > sheets[a].length || (long) j + n > sheets[b].length) return finding(2);
        int[] as = sheets[a].clone();
        for (int k = 0; k < n; k++) sheets[b][j + k] = as[i + k];
        return ok(n);
    }

    int drop(int s) {
        if (out(s, 0, 7)) return BAD;
        if (sheets[s] == null) return finding(1);
        int had = sheets[s].length;
        sheets[s] = null;
        return ok(had);
    }

    int feed(long w, int n) {
        if (out(n, 1, 8)) return BAD;
        if (tape.length() + n > 500) return FULL;
        StringBuilder more = new StringBuilder(tape);
        for (int k = n - 1; k >= 0; k--) more.append((char) (w >>> (8 * k) & 255));
        tape = more.toString();
        return tape.length();
    }

    // ---- the text

    private record Token(String text, int place) { }

    private static List<Token> tokens(String s) {
        List<Token> all = new ArrayList<>();
        Matcher m = Pattern.compile("[a-z]+|[0-9]+|[^ \n]", Pattern.DOTALL).matcher(s);
        while (m.find()) all.add(new Token(m.group(), m.start()));
        all.add(new Token("", s.length()));
        return all;
    }

    private static int number(Token t, int lo, int hi, int not) {
        if (!t.text().matches("[0-9]{1,2}")) throw new Fault(t.place(), 1);
        int v = Integer.parseInt(t.text());
        if (v < lo || v > hi || v == not) throw new Fault(t.place(), 2);
        return v;
    }

    private static void exactly(Token t, String s) {
        if (!t.text().equals(s)) throw new Fault(t.place(), 1);
    }

    private static Text read(String s) {
        List<Token> ts = tokens(s);
        Text x = new Text();
        int at = 0;
        exactly(ts.get(at++), "panel");
        x.cells = number(ts.get(at++), 4, 12, -1);
        exactly(ts.get(at++), ";");
        while (ts.get(at).text().equals("seam")) {
            if (x.seams == 6) throw new Fault(ts.get(at).place(), 3);
            at++;
            while (WORDS.contains(ts.get(at).text())) {
                if (x.acts.size() == 40) throw new Fault(ts.get(at).place(), 3);
                int kind = WORDS.indexOf(ts.get(at++).text());
                int place = kind == 7 ? number(ts.get(at++), 1, 30, -1) : number(ts.get(at++), 0, x.cells - 1, -1);
                int strength = kind < 7 ? number(ts.get(at++), 1, 20, -1) : NONE;
                x.acts.add(new Act(kind, place, strength, x.seams));
            }
            exactly(ts.get(at++), ";");
            x.seams++;
        }
        while (ts.get(at).text().equals("before")) {
            if (x.befores.size() == 10) throw new Fault(ts.get(at).place(), 3);
            at++;
            int a = number(ts.get(at++), 0, x.seams - 1, -1);
            int b = number(ts.get(at++), 0, x.seams - 1, a);
            exactly(ts.get(at++), ";");
            x.befores.add(new int[] {a, b});
        }
        exactly(ts.get(at), "");
        return x;
    }

    int plan() {
        String all = tape;
        tape = "";
        try {
            text = read(all);
        } catch (Fault f) {
            fault = f.number;
            return -1000100 - f.place;
        }
        set = new int[text.cells];
        state = first(set);
        ran = false;
        order = numbers();
        return text.acts.size();
    }

    int fault() { return fault; }

    int act(int a, int what) {
        if (text == null || out(a, 0, text.acts.size() - 1) || out(what, 0, 3)) return BAD;
        Act x = text.acts.get(a);
        return new int[] {x.kind(), x.place(), x.strength(), x.seam()}[what];
    }

    int open(int c, int bend) {
        if (text == null || out(c, 0, text.cells - 1) || out(bend, -40, 40)) return BAD;
        int was = set[c];
        set[c] = bend;
        if (!ran) state = first(set);
        return was;
    }

    // ---- runs

    private List<Integer> numbers() {
        List<Integer> all = new ArrayList<>();
        for (int s = 0; s < text.seams; s++) all.add(s);
        return all;
    }

    private State first(int[] bends) {
        State s = new State();
        int n = text.cells;
        s.heat = new int[n];
        s.hold = new int[n];
        s.spring = new int[n];
        s.pull = new int[n];
        s.clamped = new boolean[n];
        s.bend = bends.clone();
        return s;
    }

    private static void minute(State s) {
        for (int c = 0; c < s.heat.length; c++) s.heat[c] = 3 * s.heat[c] / 4;
        s.minutes++;
    }

    private static void free(State s, int c) {
        if (!s.clamped[c]) return;
        s.clamped[c] = false;
        s.bend[c] += s.spring[c] / 2;
        s.spring[c] = 0;
    }

    private static int shrinks(State s, Act a) {
        int c = a.place(), p = a.strength(), n = s.hold.length;
        boolean behind = c + 1 < n && s.hold[c + 1] > 0;
        boolean ahead = c > 0 && s.hold[c - 1] > 0;
        int back = behind ? p - 1 : p;
        switch (a.kind()) {
            case 0: return 1;
            case 1: return p;
            case 2: return back;
            case 3: return !behind && !ahead ? back - 1 : back;
            case 4: return s.hold[c] > 0 ? p / 2 : p;
            case 5: return 0 - p;
            default: return s.bend[c] > 0 ? 0 - p : p;
        }
    }

    private static void step(State s, Act a) {
        int c = a.place(), n = s.hold.length;
        int e = 8 * shrinks(s, a) / (8 + s.hold[c]);
        if (s.heat[c] >= 100) e = e / 2;
        if (s.clamped[c]) s.spring[c] += e; else s.bend[c] += e;
        for (int o = 0; o < n; o++) s.pull[o] += o == c ? e * (n - 1) : -e;
        s.heat[c] += a.kind() == 0 ? a.strength() : a.kind() == 6 ? 6 * a.strength() : 4 * a.strength();
        s.hold[c] += a.kind() == 6 ? 0 : a.kind() == 0 || a.kind() == 4 ? 1 : 2;
        minute(s);
    }

    private State after(int[] bends, List<Integer> seams, int without) {
        State s = first(bends);
        for (int seam : seams) {
            for (Act a : text.acts) {
                if (a.seam() != seam || seam == without) continue;
                if (a.kind() < 7) step(s, a);
                if (a.kind() == 7) for (int m = 0; m < a.place(); m++) minute(s);
                if (a.kind() == 8) s.clamped[a.place()] = true;
                if (a.kind() == 9) free(s, a.place());
            }
        }
        for (int c = 0; c < text.cells; c++) free(s, c);
        return s;
    }

    private static int[] heights(int[] bends) {
        int[] h = new int[bends.length + 1];
        int slope = 0;
        for (int c = 0; c < bends.length; c++) {
            slope += bends[c];
            h[c + 1] = h[c] + slope;
        }
        return h;
    }

    private static int off(int[] bends) {
        int[] h = heights(bends);
        int n = bends.length, most = 0;
        for (int i = 0; i <= n; i++) most = Math.max(most, Math.abs(n * h[i] - i * h[n]));
        return most / n;
    }

    int run(int s, int i) {
        if (out(s, 0, 7)) return BAD;
        if (text == null) return STATE;
        if (sheets[s] == null) return finding(1);
        if (i < 0 || (long) i + text.seams > sheets[s].length) return finding(2);
        List<Integer> told = new ArrayList<>();
        for (int k = 0; k < text.seams; k++) {
            int seam = sheets[s][i + k];
            if (out(seam, 0, text.seams - 1) || told.contains(seam)) return BAD;
            told.add(seam);
        }
        return ok(stand(told));
    }

    int runs() { return text == null ? STATE : stand(numbers()); }

    private int stand(List<Integer> seams) {
        order = seams;
        ran = true;
        state = after(set, seams, -1);
        return off(state.bend);
    }

    int cell(int c, int what) {
        if (text == null || out(c, 0, text.cells - 1) || out(what, 0, 3)) return BAD;
        return (what == 0 ? state.heat : what == 1 ? state.hold : what == 2 ? state.bend : state.pull)[c];
    }

    int height(int i) {
        if (text == null) return STATE;
        return out(i, 0, text.cells) ? BAD : heights(state.bend)[i];
    }

    int minutes() { return text == null ? 0 : state.minutes; }

    int gives(int seam) {
        if (text == null || out(seam, 0, text.seams - 1)) return BAD;
        return off(after(set, order, -1).bend) - off(after(set, order, seam).bend);
    }

    // ---- orders

    private boolean fits(List<Integer> seams) {
        for (int[] b : text.befores) if (seams.indexOf(b[0]) > seams.indexOf(b[1])) return false;
        return true;
    }

    private List<List<Integer>> fitting() {
        List<List<Integer>> all = new ArrayList<>();
        grow(new ArrayList<>(), all);
        return all;
    }

    private void grow(List<Integer> begun, List<List<Integer>> all) {
        if (begun.size() == text.seams) {
            if (fits(begun)) all.add(new ArrayList<>(begun));
            return;
        }
        for (int s = 0; s < text.seams; s++) {
            if (begun.contains(s)) continue;
            begun.add(s);
            grow(begun, all);
            begun.remove(begun.size() - 1);
        }
    }

    int best(int i) {
        if (i < -1) return BAD;
        if (text == null) return STATE;
        List<Integer> nearest = null;
        int least = 0;
        for (List<Integer> o : fitting()) {
            int off = off(after(set, o, -1).bend);
            if (nearest == null || off < least) {
                nearest = o;
                least = off;
            }
        }
        if (nearest == null) return NONE;
        return i == -1 ? least : i < nearest.size() ? nearest.get(i) : NONE;
    }

    int orders() { return text == null ? STATE : fitting().size(); }

    int beforehand(int cell) {
        if (text == null || out(cell, 0, text.cells - 1)) return BAD;
        int[] bends = set.clone();
        for (int c = 0; c <= cell; c++) {
            int found = NONE;
            for (int v = -40; v <= 40; v++) {
                bends[c] = v;
                boolean nearer = found == NONE || Math.abs(v) < Math.abs(found);
                if (nearer && after(bends, numbers(), -1).bend[c] == 0) found = v;
            }
            if (found == NONE) return NONE;
            bends[c] = found;
        }
        return bends[cell];
    }

    int spots(int p, int t) {
        if (out(p, 1, 20) || out(t, 0, 40)) return BAD;
        if (text == null) return STATE;
        for (int many = 0; many <= 3; many++) {
            for (int bits = 0; bits < 1 << text.cells; bits++) {
                if (Integer.bitCount(bits) == many && flatBehind(bits, p, t)) return bits;
            }
        }
        return NONE;
    }

    private boolean flatBehind(int bits, int p, int t) {
        int[] b = state.bend.clone();
        for (int c = 0; c < b.length; c++) {
            if ((bits & 1 << c) == 0) continue;
            b[c] = Math.abs(b[c]) <= p ? 0 : b[c] - p * Integer.signum(b[c]);
            if (c > 0) b[c - 1]++;
            if (c + 1 < b.length) b[c + 1]++;
        }
        return Arrays.stream(b).allMatch(v -> Math.abs(v) <= t);
    }

    int crack(int cold) {
        if (out(cold, 0, 60)) return BAD;
        if (text == null) return NONE;
        for (int c = 0; c < text.cells; c++) if (state.pull[c] > 300 - 4 * cold) return c;
        return NONE;
    }

    int warm() {
        if (text == null) return STATE;
        int greatest = NONE;
        for (int c = 0; c <= 60; c++) if (crack(c) == NONE) greatest = c;
        return greatest;
    }

    int wire(int s, int i, int what) {
        if (out(s, 0, 7)) return BAD;
        if (text == null) return STATE;
        if (out(what, -1, text.cells - 1)) return BAD;
        if (sheets[s] == null) return finding(1);
        if (i < 0 || (long) i + text.cells + 1 > sheets[s].length) return finding(2);
        int[] h = Arrays.copyOfRange(sheets[s], i, i + text.cells + 1);
        for (int v : h) if (out(v, -9999, 9999)) return BAD;
        int[] bends = new int[text.cells];
        for (int c = 0; c < text.cells; c++) bends[c] = (h[c + 1] - h[c]) - (c == 0 ? 0 : h[c] - h[c - 1]);
        if (what >= 0) return ok(bends[what]);
        for (int k = 1; k <= 9; k++) {
            boolean all = true;
            for (int c = 0; c < text.cells; c++) all &= bends[c] == k * state.bend[c] / 4;
            if (all) return ok(k);
        }
        return ok(NONE);
    }

    // ---- asked, through classes

    private class Step {
        final int number, strength;
        Step(int number, int strength) { this.number = number; this.strength = strength; }
        int size() { trace.add(10); return strength; }
        int mark() { trace.add(20); return number; }
    }

    private class Tacked extends Step {
        Tacked(int n, int s) { super(n, s); }
        @Override int mark() { trace.add(21); return super.mark() + 100; }
    }

    private class Forward extends Step {
        Forward(int n, int s) { super(n, s); }
        @Override int size() { trace.add(11); return super.size() + mark(); }
    }

    private class Back extends Forward {
        Back(int n, int s) { super(n, s); }
        @Override int size() { trace.add(12); return super.size() - 1; }
    }

    private class Skipped extends Back {
        Skipped(int n, int s) { super(n, s); }
        @Override int size() { trace.add(13); return super.size() * 2; }
    }

    private class Second extends Forward {
        Second(int n, int s) { super(n, s); }
    }

    private class Turned extends Forward {
        Turned(int n, int s) { super(n, s); }
        @Override int mark() { trace.add(22); return 0 - super.mark(); }
    }

    private class Flame extends Step {
        Flame(int n, int s) { super(n, s); }
        @Override int size() { trace.add(14); return 0 - super.size(); }
        @Override int mark() { trace.add(23); return super.mark() + size(); }
    }

    private Step stepOf(int a) {
        if (text == null || out(a, 0, text.acts.size() - 1)) return null;
        int p = text.acts.get(a).strength();
        switch (text.acts.get(a).kind()) {
            case 0: return new Tacked(a, p);
            case 1: return new Forward(a, p);
            case 2: return new Back(a, p);
            case 3: return new Skipped(a, p);
            case 4: return new Second(a, p);
            case 5: return new Turned(a, p);
            case 6: return new Flame(a, p);
            default: return null;
        }
    }

    private static final List<Class<?>> KINDS = List.of(Step.class, Tacked.class, Forward.class, Back.class,
            Skipped.class, Second.class, Turned.class, Flame.class);

    int kind(int a) {
        Step s = stepOf(a);
        return s == null ? BAD : KINDS.indexOf(s.getClass());
    }

    int as(int a, int kind) {
        Step s = stepOf(a);
        if (s == null || out(kind, 0, 7)) return BAD;
        return KINDS.get(kind).isInstance(s) ? ok(text.acts.get(a).place()) : finding(3);
    }

    int ask(int a, int what) {
        Step s = stepOf(a);
        if (s == null || out(what, 0, 1)) return BAD;
        trace.clear();
        return what == 0 ? s.size() : s.mark();
    }

    int trace(int i) { return i < 0 || i >= Math.min(16, trace.size()) ? NONE : trace.get(i); }

    int count(int what) {
        int sheetCount = 0;
        for (int[] s : sheets) if (s != null) sheetCount++;
        switch (what) {
            case 0: return sheetCount;
            case 1: return text == null ? 0 : text.cells;
            case 2: return text == null ? 0 : text.seams;
            case 3: return text == null ? 0 : text.acts.size();
            case 4: return text == null ? 0 : text.befores.size();
            case 5: return tape.length();
            default: return BAD;
        }
    }

    int status() { return status; }
}

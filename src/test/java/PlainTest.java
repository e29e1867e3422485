import java.util.Random;

/** Random runs of calls on the program and on PlainPull side by side; every answer must be the same. */
public final class PlainTest {
    private static final String[] KINDS = {"tack", "on", "back", "skip", "second", "turned", "flame"};
    private static final int RUNS = 1500, CALLS = 512;
    private final Random random;
    private final StringBuilder story = new StringBuilder();
    private final SeamPull ours = new SeamPull();
    private final PlainPull plain = new PlainPull();
    private int calls = 0;
    private int wrong = 0;

    private PlainTest(long seed) {
        random = new Random(seed);
    }

    public static void main(String[] args) {
        int wrong = 0;
        long calls = 0;
        for (int run = 0; run < RUNS && wrong == 0; run++) {
            PlainTest test = new PlainTest(run);
            test.play(run % 4);
            wrong += test.wrong;
            calls += test.calls;
        }
        System.out.println(wrong == 0 ? "PlainTest: " + calls + " answers are the same" : "PlainTest: answers differ");
        if (wrong != 0) {
            System.exit(1);
        }
    }

    private void same(String call, int got, int want) {
        calls++;
        story.append(call).append(" -> ").append(got).append('\n');
        if (got != want && wrong++ == 0) {
            System.out.print(story);
            System.out.println(call + " answered " + got + ", due is " + want);
        }
    }

    private int upTo(int most) {
        return random.nextInt(most + 1);
    }

    /** Mostly lo to hi, now and then just outside or far off. */
    private int about(int lo, int hi) {
        int dice = random.nextInt(40);
        if (dice == 0) return lo - 1;
        if (dice == 1) return hi + 1;
        if (dice == 2) return random.nextInt();
        if (dice == 3) return random.nextBoolean() ? Integer.MAX_VALUE : Integer.MIN_VALUE;
        return hi < lo ? lo : lo + random.nextInt(hi - lo + 1);
    }

    private void play(int style) {
        if (style != 3) {
            feedText(style == 0 ? text() : style == 1 ? brokenText() : hotText());
        }
        while (calls < CALLS && wrong == 0) {
            int dice = random.nextInt(100);
            if (dice < 3 && calls + 70 < CALLS) {
                feedText(random.nextInt(3) == 0 ? brokenText() : random.nextBoolean() ? text() : hotText());
            } else if (dice < 40) {
                sheetCall();
            } else if (dice < 80) {
                planCall();
            } else {
                askCall();
            }
        }
    }

    private void feedText(String text) {
        for (int i = 0; i < text.length(); i += 8) {
            int n = Math.min(8, text.length() - i);
            // What stands above the lowest n bytes is not fed.
            long w = random.nextLong();
            for (int k = 0; k < n; k++) {
                w = w << 8 | text.charAt(i + k);
            }
            same("feed(" + w + ", " + n + ")", ours.feed(w, n), plain.feed(w, n));
        }
        same("plan()", ours.plan(), plain.plan());
        same("fault()", ours.fault(), plain.fault());
    }

    private String text() {
        int cells = 4 + upTo(8);
        int seams = upTo(6);
        StringBuilder b = new StringBuilder("panel " + cells + ";");
        for (int s = 0; s < seams; s++) {
            b.append(gap()).append("seam");
            for (int a = upTo(6); a > 0; a--) {
                int k = upTo(9);
                b.append(' ');
                if (k < 7) b.append(KINDS[k]).append(' ').append(upTo(cells - 1)).append(' ').append(1 + upTo(19));
                if (k == 7) b.append("wait ").append(1 + upTo(random.nextBoolean() ? 3 : 29));
                if (k == 8) b.append("clamp ").append(upTo(cells - 1));
                if (k == 9) b.append("free ").append(upTo(cells - 1));
            }
            b.append(gap()).append(';');
        }
        for (int k = seams < 2 ? 0 : upTo(4); k > 0; k--) {
            int one = upTo(seams - 1);
            int two = (one + 1 + upTo(seams - 2)) % seams;
            boolean swap = one > two && random.nextInt(4) != 0;
            b.append("before ").append(swap ? two : one).append(' ').append(swap ? one : two).append(';');
        }
        return b.length() > 500 ? "panel 4;" : b.toString();
    }

    /** Few cells, great strengths, little time: much heat, hold and pull. */
    private String hotText() {
        StringBuilder b = new StringBuilder("panel " + (4 + upTo(2)) + ";");
        for (int s = 0; s < 3; s++) {
            b.append("seam");
            for (int a = 0; a < 6; a++) {
                b.append(' ').append(KINDS[random.nextInt(7)]).append(' ').append(random.nextInt(3)).append(' ').append(12 + upTo(8));
                if (random.nextInt(4) == 0) b.append(random.nextBoolean() ? " clamp " : " free ").append(random.nextInt(3));
            }
            b.append(';');
        }
        return b.toString();
    }

    private String gap() {
        return new String[] {"", " ", "\n", " \n "}[random.nextInt(4)];
    }

    private String brokenText() {
        if (random.nextInt(6) == 0) return crowdedText();
        StringBuilder b = new StringBuilder(random.nextBoolean() ? text() : hotText());
        String odd = "; \n0123456789abcdefnopstuwxA-.,\u0000\u00ff";
        for (int k = 1 + upTo(2); k > 0; k--) {
            int at = upTo(b.length() - 1);
            char c = odd.charAt(random.nextInt(odd.length()));
            switch (random.nextInt(4)) {
                case 0: b.setCharAt(at, c); break;
                case 1: b.insert(at, c); break;
                case 2: b.deleteCharAt(at); break;
                default: b.setLength(at + 1); break;
            }
        }
        if (b.length() > 500) b.setLength(500);
        return b.toString();
    }

    private String crowdedText() {
        StringBuilder b = new StringBuilder("panel 5;");
        int acts = 38 + upTo(4);
        int seams = 1 + upTo(6);
        for (int s = 0; s < seams; s++) {
            b.append("seam");
            for (int a = acts * s / seams; a < acts * (s + 1) / seams; a++) b.append(" free 4");
            b.append(';');
        }
        for (int k = 8 + upTo(3); k > 0 && b.length() < 480; k--) b.append("before 0 1;");
        return b.toString();
    }

    private void sheetCall() {
        int s = about(0, random.nextInt(4) == 0 ? 7 : 2);
        int i = random.nextInt(3) == 0 ? about(0, 40) : about(0, 2);
        switch (random.nextInt(9)) {
            case 0: {
                int lane = about(0, 2), n = random.nextInt(8) == 0 ? -upTo(3) : about(0, 40);
                same("sheet(" + s + ", " + lane + ", " + n + ")", ours.sheet(s, lane, n), plain.sheet(s, lane, n));
                break;
            }
            case 1: setItem(s, i, random.nextInt(4) == 0 ? random.nextInt() : about(0, 5)); break;
            case 2: {
                int b = about(0, 2), j = about(0, 10), n = about(0, 12);
                same("copy(" + s + ", " + i + ", " + b + ", " + j + ", " + n + ")", ours.copy(s, i, b, j, n), plain.copy(s, i, b, j, n));
                break;
            }
            case 3:
                if (random.nextInt(4) == 0) same("drop(" + s + ")", ours.drop(s), plain.drop(s));
                break;
            case 4: tellOrder(s, i); break;
            case 5: same("run(" + s + ", " + i + ")", ours.run(s, i), plain.run(s, i)); break;
            case 6: layWire(s, i); break;
            default: {
                int what = about(-1, plain.count(1) - 1);
                same("wire(" + s + ", " + i + ", " + what + ")", ours.wire(s, i, what), plain.wire(s, i, what));
                break;
            }
        }
        same("status()", ours.status(), plain.status());
    }

    private void setItem(int s, int i, int v) {
        same("set(" + s + ", " + i + ", " + v + ")", ours.set(s, i, v), plain.set(s, i, v));
    }

    private void tellOrder(int s, int i) {
        int seams = plain.count(2);
        if (calls + seams + 3 > CALLS || i < 0 || i > 30) return;
        int turn = upTo(seams);
        int way = random.nextBoolean() ? 1 : -1;
        for (int k = 0; k < seams; k++) setItem(s, i + k, Math.floorMod(way * k + turn, seams));
        same("run(" + s + ", " + i + ")", ours.run(s, i), plain.run(s, i));
    }

    private void layWire(int s, int i) {
        int cells = plain.count(1);
        if (calls + cells + 3 > CALLS || cells == 0 || i < 0 || i > 20) return;
        int k = 1 + upTo(9), height = upTo(1) * 50, slope = 0;
        setItem(s, i, height);
        for (int c = 0; c < cells; c++) {
            slope += k * plain.cell(c, 2) / 4;
            height += slope;
            setItem(s, i + c + 1, height);
        }
        same("wire(" + s + ", " + i + ", -1)", ours.wire(s, i, -1), plain.wire(s, i, -1));
    }

    private void planCall() {
        int c = about(0, plain.count(1) - 1);
        switch (random.nextInt(16)) {
            case 0: {
                int a = about(0, plain.count(3) - 1), what = about(0, 3);
                same("act(" + a + ", " + what + ")", ours.act(a, what), plain.act(a, what));
                break;
            }
            case 1: {
                int b = about(-40, 40);
                same("open(" + c + ", " + b + ")", ours.open(c, b), plain.open(c, b));
                break;
            }
            case 2: same("runs()", ours.runs(), plain.runs()); break;
            case 3: case 4: {
                int what = about(0, 3);
                same("cell(" + c + ", " + what + ")", ours.cell(c, what), plain.cell(c, what));
                break;
            }
            case 5: same("height(" + c + ")", ours.height(c), plain.height(c)); break;
            case 6: same("minutes()", ours.minutes(), plain.minutes()); break;
            case 7: {
                int s = about(0, plain.count(2) - 1);
                same("gives(" + s + ")", ours.gives(s), plain.gives(s));
                break;
            }
            case 8:
                if (random.nextInt(12) == 0) {
                    int i = about(-1, plain.count(2));
                    same("best(" + i + ")", ours.best(i), plain.best(i));
                }
                break;
            case 9:
                if (random.nextInt(6) == 0) same("orders()", ours.orders(), plain.orders());
                break;
            case 10:
                if (random.nextInt(4) == 0) same("beforehand(" + c + ")", ours.beforehand(c), plain.beforehand(c));
                break;
            case 11: {
                int p = about(1, 20), t = about(0, 40);
                same("spots(" + p + ", " + t + ")", ours.spots(p, t), plain.spots(p, t));
                break;
            }
            case 12: {
                int cold = about(0, 60);
                same("crack(" + cold + ")", ours.crack(cold), plain.crack(cold));
                break;
            }
            case 13: same("warm()", ours.warm(), plain.warm()); break;
            case 14: {
                long w = random.nextLong();
                int n = about(1, 8);
                if (random.nextInt(8) == 0) same("feed(" + w + ", " + n + ")", ours.feed(w, n), plain.feed(w, n));
                break;
            }
            default:
                if (random.nextInt(12) == 0) same("plan()", ours.plan(), plain.plan());
                break;
        }
    }

    private void askCall() {
        int a = about(0, plain.count(3) - 1);
        switch (random.nextInt(6)) {
            case 0: same("kind(" + a + ")", ours.kind(a), plain.kind(a)); break;
            case 1: {
                int kind = about(0, 7);
                same("as(" + a + ", " + kind + ")", ours.as(a, kind), plain.as(a, kind));
                break;
            }
            case 2: {
                int what = about(0, 1);
                same("ask(" + a + ", " + what + ")", ours.ask(a, what), plain.ask(a, what));
                break;
            }
            case 3: {
                int i = about(0, 5);
                same("trace(" + i + ")", ours.trace(i), plain.trace(i));
                break;
            }
            case 4: {
                int what = about(0, 5);
                same("count(" + what + ")", ours.count(what), plain.count(what));
                break;
            }
            default: same("status()", ours.status(), plain.status()); break;
        }
    }
}

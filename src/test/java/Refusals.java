import java.util.ArrayList;
import java.util.List;
import java.util.function.Supplier;
import java.util.function.ToIntFunction;

/**
 * "What is refused, or found, changes nothing but status()": of two objects made alike one is given the call that is
 * refused, and then all that can be asked is asked of both.
 */
final class Refusals extends Bench {
    private static final String TEXT = "panel 4;seam on 1 9 clamp 2 flame 2 7;seam turned 1 6 wait 2;seam skip 0 5 free 2;before 0 2;";
    private static final int ACTS = 7, SEAMS = 3, CELLS = 4, WAIT_ACT = 4;
    /** Left out by all states, so that it is missing, or free to work on. */
    private static final int MISSING = 5, SCRATCH = 7;

    private record Refused(String name, ToIntFunction<SeamPull> call, int answer) { }

    static void all() {
        each("a new object", SeamPull::new, join(badAnywhere(), foundAnywhere(), stateWithoutPlan()));
        each("no plan, but sheets and a tape", Refusals::withoutPlan, join(badAnywhere(), foundAnywhere(), stateWithoutPlan(), foundOnSheets()));
        each("ahead of a run", Refusals::planned, join(badAnywhere(), foundAnywhere(), foundOnSheets(), refusedWithPlan()));
        each("behind a run", Refusals::standing, join(badAnywhere(), foundAnywhere(), foundOnSheets(), refusedWithPlan()));
        each("a full tape", Refusals::full, join(badAnywhere(), foundOnSheets(), refusedWithPlan(), fullTape()));
    }

    @SafeVarargs
    private static List<Refused> join(List<Refused>... lists) {
        List<Refused> all = new ArrayList<>();
        for (List<Refused> list : lists) {
            all.addAll(list);
        }
        return all;
    }

    // ---- the states

    private static void laySheets(SeamPull x) {
        x.sheet(0, 2, 6);
        items(x, 0, 0, 2, 0, 1, 7, -9999, 9999);
        x.sheet(1, 1, 5);
        items(x, 1, 0, 0, 1, 1, 0, 3);
        x.sheet(2, 2, 5);
        items(x, 2, 0, 0, 0, 0, 0, 10000);
        x.sheet(3, 0, 0);
        x.sheet(4, 0, 3);
        items(x, 4, 0, -128, 127, 1);
    }

    private static SeamPull withoutPlan() {
        SeamPull x = new SeamPull();
        laySheets(x);
        feedText(x, "panel 3;");
        x.plan();
        feedText(x, "panel 5;seam on");
        x.set(0, 6, 0);
        return x;
    }

    private static SeamPull planned() {
        SeamPull x = withoutPlan();
        x.plan();
        feedText(x, TEXT);
        x.plan();
        x.open(1, -3);
        x.open(2, 40);
        feedText(x, "panel 5;seam on");
        x.ask(5, 0);
        x.as(0, 7);
        return x;
    }

    private static SeamPull standing() {
        SeamPull x = planned();
        x.run(0, 0);
        x.open(0, 6);
        x.drop(MISSING);
        x.ask(2, 1);
        return x;
    }

    private static SeamPull full() {
        SeamPull x = standing();
        feedText(x, times(485, "\n"));
        return x;
    }

    // ---- what is refused

    private static List<Refused> badAnywhere() {
        List<Refused> all = new ArrayList<>();
        for (int s : new int[] {LOW, -1, 8, HIGH}) {
            all.add(new Refused("sheet " + s, x -> x.sheet(s, 0, 1), BAD));
            all.add(new Refused("sheet of -1, " + s, x -> x.sheet(s, 0, -1), BAD));
            all.add(new Refused("set " + s, x -> x.set(s, 0, 1), BAD));
            all.add(new Refused("copy of " + s, x -> x.copy(s, 0, 0, 0, 1), BAD));
            all.add(new Refused("copy to " + s, x -> x.copy(0, 0, s, 0, 1), BAD));
            all.add(new Refused("drop " + s, x -> x.drop(s), BAD));
            all.add(new Refused("run " + s, x -> x.run(s, 0), BAD));
            all.add(new Refused("wire " + s, x -> x.wire(s, 0, 0), BAD));
        }
        for (int v : new int[] {LOW, -1, HIGH}) {
            all.add(new Refused("lane " + v, x -> x.sheet(0, v, 1), BAD));
            all.add(new Refused("feed of " + v, x -> x.feed(-1, v), BAD));
            all.add(new Refused("act " + v, x -> x.act(v, 0), BAD));
            all.add(new Refused("act what " + v, x -> x.act(0, v), BAD));
            all.add(new Refused("open cell " + v, x -> x.open(v, 1), BAD));
            all.add(new Refused("cell " + v, x -> x.cell(v, 0), BAD));
            all.add(new Refused("cell what " + v, x -> x.cell(0, v), BAD));
            all.add(new Refused("gives " + v, x -> x.gives(v), BAD));
            all.add(new Refused("beforehand " + v, x -> x.beforehand(v), BAD));
            all.add(new Refused("spots of " + v, x -> x.spots(v, 0), BAD));
            all.add(new Refused("spots to " + v, x -> x.spots(1, v), BAD));
            all.add(new Refused("crack " + v, x -> x.crack(v), BAD));
            all.add(new Refused("kind " + v, x -> x.kind(v), BAD));
            all.add(new Refused("as of " + v, x -> x.as(v, 0), BAD));
            all.add(new Refused("as " + v, x -> x.as(0, v), BAD));
            all.add(new Refused("ask of " + v, x -> x.ask(v, 0), BAD));
            all.add(new Refused("ask " + v, x -> x.ask(0, v), BAD));
            all.add(new Refused("count " + v, x -> x.count(v), BAD));
        }
        all.addAll(badJustBeyond());
        return all;
    }

    private static List<Refused> badJustBeyond() {
        return List.of(
            new Refused("lane 3", x -> x.sheet(0, 3, 1), BAD), new Refused("n 41", x -> x.sheet(0, 0, 41), BAD),
            new Refused("feed of 0", x -> x.feed(-1, 0), BAD), new Refused("feed of 9", x -> x.feed(-1, 9), BAD),
            new Refused("act " + ACTS, x -> x.act(ACTS, 0), BAD), new Refused("act what 4", x -> x.act(0, 4), BAD),
            new Refused("open cell 4", x -> x.open(CELLS, 1), BAD), new Refused("open to 41", x -> x.open(0, 41), BAD),
            new Refused("open to -41", x -> x.open(0, -41), BAD), new Refused("cell 4", x -> x.cell(CELLS, 0), BAD),
            new Refused("cell what 4", x -> x.cell(0, 4), BAD), new Refused("gives 3", x -> x.gives(SEAMS), BAD),
            new Refused("best -2", x -> x.best(-2), BAD), new Refused("best far below", x -> x.best(LOW), BAD),
            new Refused("beforehand 4", x -> x.beforehand(CELLS), BAD), new Refused("spots of 0", x -> x.spots(0, 0), BAD),
            new Refused("spots of 21", x -> x.spots(21, 0), BAD), new Refused("spots to 41", x -> x.spots(1, 41), BAD),
            new Refused("crack 61", x -> x.crack(61), BAD), new Refused("kind " + ACTS, x -> x.kind(ACTS), BAD),
            new Refused("as of " + ACTS, x -> x.as(ACTS, 0), BAD), new Refused("as 8", x -> x.as(0, 8), BAD),
            new Refused("ask of " + ACTS, x -> x.ask(ACTS, 0), BAD), new Refused("ask 2", x -> x.ask(0, 2), BAD),
            new Refused("count 6", x -> x.count(6), BAD));
    }

    private static List<Refused> foundAnywhere() {
        return List.of(
            new Refused("size -1", x -> x.sheet(0, 1, -1), SIZE), new Refused("size far below", x -> x.sheet(3, 2, LOW), SIZE),
            new Refused("size of a missing one", x -> x.sheet(MISSING, 0, -1), SIZE),
            new Refused("set of a missing one", x -> x.set(MISSING, 0, 1), NULL),
            new Refused("copy of a missing one", x -> x.copy(MISSING, 0, MISSING, 0, 0), NULL),
            new Refused("drop of a missing one", x -> x.drop(MISSING), NULL));
    }

    private static List<Refused> stateWithoutPlan() {
        return List.of(
            new Refused("runs", x -> x.runs(), STATE), new Refused("run", x -> x.run(0, 0), STATE),
            new Refused("run of a missing one", x -> x.run(MISSING, -1), STATE), new Refused("height", x -> x.height(0), STATE),
            new Refused("height -1", x -> x.height(-1), STATE), new Refused("best", x -> x.best(-1), STATE),
            new Refused("orders", x -> x.orders(), STATE), new Refused("spots", x -> x.spots(1, 40), STATE),
            new Refused("warm", x -> x.warm(), STATE), new Refused("wire", x -> x.wire(0, 0, 0), STATE),
            new Refused("wire what -2", x -> x.wire(MISSING, -1, -2), STATE));
    }

    private static List<Refused> foundOnSheets() {
        return List.of(
            new Refused("set at -1", x -> x.set(0, -1, 5), PLACE), new Refused("set at 6", x -> x.set(0, 6, 5), PLACE),
            new Refused("set in an empty one", x -> x.set(3, 0, 5), PLACE), new Refused("set far off", x -> x.set(4, HIGH, 5), PLACE),
            new Refused("copy to a missing one", x -> x.copy(0, 0, MISSING, 0, 1), NULL),
            new Refused("copy to another lane", x -> x.copy(0, 0, 1, 0, 1), STORE),
            new Refused("copy beyond the end of a", x -> x.copy(0, 4, 2, 0, 3), PLACE),
            new Refused("copy beyond the end of b", x -> x.copy(0, 0, 2, 3, 3), PLACE),
            new Refused("copy over itself, beyond its end", x -> x.copy(0, 0, 0, 1, 6), PLACE),
            new Refused("copy from -1", x -> x.copy(0, -1, 2, 0, 2), PLACE), new Refused("copy to -1", x -> x.copy(0, 0, 2, -1, 2), PLACE),
            new Refused("copy of -1", x -> x.copy(0, 1, 2, 1, -1), PLACE), new Refused("copy of so many", x -> x.copy(0, 1, 2, 1, HIGH), PLACE));
    }

    private static List<Refused> refusedWithPlan() {
        return List.of(
            new Refused("run of a missing one", x -> x.run(MISSING, 0), NULL), new Refused("run at -1", x -> x.run(0, -1), PLACE),
            new Refused("run at 4", x -> x.run(0, 4), PLACE), new Refused("run far off", x -> x.run(0, HIGH), PLACE),
            new Refused("run of an empty one", x -> x.run(3, 0), PLACE), new Refused("run with a seam twice", x -> x.run(1, 0), BAD),
            new Refused("run with a seam that is not", x -> x.run(1, 2), BAD), new Refused("run with one below 0", x -> x.run(4, 0), BAD),
            new Refused("height -1", x -> x.height(-1), BAD), new Refused("height 5", x -> x.height(CELLS + 1), BAD),
            new Refused("wire what -2", x -> x.wire(0, 0, -2), BAD), new Refused("wire what 4", x -> x.wire(0, 0, CELLS), BAD),
            new Refused("wire of a missing one", x -> x.wire(MISSING, 0, 0), NULL), new Refused("wire at -1", x -> x.wire(0, -1, 0), PLACE),
            new Refused("wire at 2", x -> x.wire(0, 2, 0), PLACE), new Refused("wire with 10000", x -> x.wire(2, 0, 0), BAD),
            new Refused("steel with 10000", x -> x.wire(2, 0, -1), BAD), new Refused("as a tack", x -> x.as(0, 1), KIND),
            new Refused("as a flame", x -> x.as(5, 7), KIND), new Refused("kind of a wait", x -> x.kind(WAIT_ACT), BAD),
            new Refused("kind of a clamp", x -> x.kind(1), BAD), new Refused("kind of a free", x -> x.kind(6), BAD),
            new Refused("as of a wait", x -> x.as(WAIT_ACT, 0), BAD), new Refused("ask of a wait", x -> x.ask(WAIT_ACT, 0), BAD));
    }

    private static List<Refused> fullTape() {
        return List.of(new Refused("feed of 1", x -> x.feed(32, 1), FULL), new Refused("feed of 8", x -> x.feed(-1, 8), FULL));
    }

    // ---- what is asked of both

    private static void each(String state, Supplier<SeamPull> made, List<Refused> calls) {
        List<Integer> due = asked(made.get());
        SeamPull all = made.get();
        int status = all.status();
        for (Refused r : calls) {
            SeamPull x = made.get();
            due(state + ": " + r.name(), r.call().applyAsInt(x), r.answer());
            boolean found = r.answer() <= NULL;
            due(state + ": status behind " + r.name(), x.status(), found ? -1000010 - r.answer() : status);
            same(state + ", behind " + r.name(), asked(x), due);
            r.call().applyAsInt(all);
        }
        same(state + ", behind all of these", asked(all), due);
    }

    private static void same(String where, List<Integer> got, List<Integer> want) {
        due(where + ": how many answers", got.size(), want.size());
        for (int k = 0; k < Math.min(got.size(), want.size()); k++) {
            due(where + ": answer " + k, got.get(k), want.get(k));
        }
    }

    private static List<Integer> asked(SeamPull x) {
        List<Integer> all = new ArrayList<>();
        for (int what = 0; what <= 5; what++) all.add(x.count(what));
        for (int i = 0; i <= 6; i++) all.add(x.trace(i));
        all.add(x.fault());
        all.add(x.minutes());
        for (int a = 0; a < ACTS; a++) {
            for (int what = 0; what <= 3; what++) all.add(x.act(a, what));
        }
        askPlan(x, all);
        all.add(x.runs());
        for (int c = 0; c < CELLS; c++) all.add(x.cell(c, 2));
        askTape(x, all);
        askSheets(x, all);
        return all;
    }

    private static void askPlan(SeamPull x, List<Integer> all) {
        for (int c = 0; c < CELLS; c++) {
            for (int what = 0; what <= 3; what++) all.add(x.cell(c, what));
            all.add(x.beforehand(c));
        }
        for (int i = 0; i <= CELLS; i++) all.add(x.height(i));
        for (int s = -1; s < SEAMS; s++) all.add(x.best(s));
        for (int s = 0; s < SEAMS; s++) all.add(x.gives(s));
        all.add(x.orders());
        all.add(x.spots(5, 40));
        all.add(x.crack(60));
        all.add(x.warm());
    }

    /** Reads what is on the tape, or a new plan where there was none; a wire then tells items. */
    private static void askTape(SeamPull x, List<Integer> all) {
        x.feed(0x203220333bL, 5);
        all.add(x.count(5));
        all.add(x.plan());
        all.add(x.fault());
        all.add(x.count(1));
        all.add(x.act(0, 1));
        feedText(x, "panel 4;");
        all.add(x.plan());
    }

    private static void askSheets(SeamPull x, List<Integer> all) {
        for (int s = 0; s < SCRATCH; s++) {
            for (int lane = 0; lane <= 2; lane++) {
                x.sheet(SCRATCH, lane, CELLS + 1);
                int answer = x.copy(s, 0, SCRATCH, 1, 0);
                all.add(answer);
                for (int i = 0; answer >= 0 && i <= 40; i++) {
                    answer = x.copy(s, i, SCRATCH, 1, 1);
                    all.add(answer);
                    all.add(x.wire(SCRATCH, 0, 0));
                }
            }
        }
    }
}

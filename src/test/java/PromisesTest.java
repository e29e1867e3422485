/** For each promise of the document: ordinary inputs, the edges it names, wrong inputs. Worked out by hand. */
public final class PromisesTest extends Bench {
    private static final String[] BODIES = {
        "tack:10|21,20", "on:11,10,20|20", "back:12,11,10,20|20", "skip:13,12,11,10,20|20",
        "second:11,10,20|20", "turned:11,10,22,20|22,20", "flame:14,10|23,20,14,10"};

    public static void main(String[] args) {
        newObject();
        sheet();
        set();
        copy();
        drop();
        feed();
        planReads();
        planRefuses();
        planRoom();
        fault();
        act();
        open();
        run();
        runs();
        steps();
        heat();
        clamps();
        cell();
        height();
        minutes();
        gives();
        best();
        orders();
        beforehand();
        spots();
        crack();
        warm();
        wire();
        steel();
        kind();
        as();
        ask();
        trace();
        count();
        status();
        end("PromisesTest");
    }

    private static void newObject() {
        about("promise 1");
        SeamPull x = new SeamPull();
        for (int what = 0; what <= 5; what++) {
            due("count " + what, x.count(what), 0);
        }
        due("runs", x.runs(), STATE);
        due("fault", x.fault(), 0);
        due("status", x.status(), 0);
        due("minutes", x.minutes(), 0);
        due("trace", x.trace(0), NONE);
        for (int s = 0; s < 8; s++) {
            due("drop", x.drop(s), NULL);
        }
        due("NONE", SeamPull.NONE, NONE);
        due("BAD", SeamPull.BAD, BAD);
        due("STATE", SeamPull.STATE, STATE);
        due("FULL", SeamPull.FULL, FULL);
    }

    private static void sheet() {
        about("promise 2");
        SeamPull x = of("panel 4;");
        due("whole", x.sheet(0, 2, 40), 40);
        due("empty", x.sheet(7, 0, 0), 0);
        due("above 40", x.sheet(0, 0, 41), BAD);
        due("far above", x.sheet(0, 0, HIGH), BAD);
        due("sheet 8", x.sheet(8, 0, -1), BAD);
        due("sheet -1", x.sheet(-1, 0, 1), BAD);
        due("lane 3", x.sheet(0, 3, -1), BAD);
        due("lane -1", x.sheet(0, -1, 1), BAD);
        due("status is as it was", x.status(), 0);
        due("size", x.sheet(0, 0, -1), SIZE);
        due("far below", x.sheet(0, 0, LOW), SIZE);
        due("status", x.status(), 4);
        due("what was found changed nothing", x.set(0, 39, 70000), 70000);
        due("anew", x.sheet(0, 2, 40), 40);
        items(x, 0, 35, 0, 0, 0, 0);
        due("items are 0 anew", x.wire(0, 35, 3), 0);
        due("shorter", x.sheet(0, 1, 1), 1);
        due("no item 1", x.set(0, 1, 0), PLACE);
        due("lane is short", x.set(0, 0, 70000), 4464);
    }

    private static void set() {
        about("promise 3");
        SeamPull x = new SeamPull();
        x.sheet(0, 0, 2);
        x.sheet(1, 1, 2);
        x.sheet(2, 2, 2);
        due("byte", x.set(0, 0, 127), 127);
        due("byte 128", x.set(0, 0, 128), -128);
        due("byte 256", x.set(0, 0, 256), 0);
        due("byte -129", x.set(0, 0, -129), 127);
        due("short 32767", x.set(1, 1, 32767), 32767);
        due("short 40000", x.set(1, 1, 40000), -25536);
        due("short 65536", x.set(1, 1, 65536), 0);
        due("int low", x.set(2, 1, LOW), LOW);
        due("int high", x.set(2, 1, HIGH), HIGH);
        due("place 2", x.set(2, 2, 0), PLACE);
        due("place -1", x.set(2, -1, 0), PLACE);
        due("place far", x.set(2, HIGH, 0), PLACE);
        due("status", x.status(), 2);
        due("missing, ahead of place", x.set(3, -1, 0), NULL);
        due("sheet 8", x.set(8, 0, 0), BAD);
        due("sheet -1", x.set(-1, 0, 0), BAD);
        due("status stays", x.status(), 1);
    }

    private static void copy() {
        about("promise 4");
        SeamPull x = of("panel 4;");
        x.sheet(0, 2, 6);
        items(x, 0, 0, 1, 3, 9, 27, 81, 243);
        due("over itself", x.copy(0, 0, 0, 1, 5), 5);
        // 1 1 3 9 27 81
        due("as they were", x.wire(0, 0, 0), 0);
        due("as they were", x.wire(0, 1, 3), 36);
        due("back over itself", x.copy(0, 1, 0, 0, 5), 5);
        // 1 3 9 27 81 81
        due("as they were", x.wire(0, 0, 0), 2);
        due("as they were", x.wire(0, 0, 3), 36);
        x.sheet(1, 2, 5);
        due("to another", x.copy(0, 0, 1, 0, 5), 5);
        due("came", x.wire(1, 0, 3), 36);
        due("none, at the ends", x.copy(0, 6, 1, 5, 0), 0);
        due("beyond end of a", x.copy(0, 2, 1, 0, 5), PLACE);
        due("beyond end of b", x.copy(0, 0, 1, 1, 5), PLACE);
        due("i below 0", x.copy(0, -1, 1, 0, 1), PLACE);
        due("j below 0", x.copy(0, 0, 1, -1, 1), PLACE);
        due("n below 0", x.copy(0, 1, 1, 1, -1), PLACE);
        due("wraps around", x.copy(0, HIGH, 1, 0, HIGH), PLACE);
        due("wraps around", x.copy(0, 1, 1, 1, HIGH), PLACE);
        due("status", x.status(), 2);
        x.sheet(2, 1, 5);
        due("two lanes, ahead of place", x.copy(0, -1, 2, 0, 1), STORE);
        due("two lanes, none of them", x.copy(0, 0, 2, 0, 0), STORE);
        due("a missing", x.copy(3, -1, 2, 0, 1), NULL);
        due("b missing", x.copy(2, -1, 3, 0, 1), NULL);
        due("sheet 8", x.copy(8, 0, 3, 0, 1), BAD);
        due("sheet -1", x.copy(3, 0, -1, 0, 1), BAD);
        due("status stays", x.status(), 1);
    }

    private static void drop() {
        about("promise 5");
        SeamPull x = new SeamPull();
        x.sheet(0, 1, 7);
        x.sheet(1, 1, 0);
        due("count", x.count(0), 2);
        due("seven", x.drop(0), 7);
        due("none", x.drop(1), 0);
        due("count", x.count(0), 0);
        due("again", x.drop(0), NULL);
        due("missing", x.set(0, 0, 1), NULL);
        due("sheet 8", x.drop(8), BAD);
        due("sheet -1", x.drop(-1), BAD);
        due("status", x.status(), 1);
    }

    private static void feed() {
        about("promise 6");
        SeamPull x = new SeamPull();
        due("n 0", x.feed(0, 0), BAD);
        due("n 9", x.feed(0, 9), BAD);
        due("n -1", x.feed(0, -1), BAD);
        due("eight", x.feed(0x70616e656c20343bL, 8), 8);
        due("is panel 4;", x.plan(), 0);
        due("lowest three", x.feed(0x7a7a7a7a7a70616eL, 3), 3);
        due("lowest five", x.feed(-1L << 40 | 0x656c20353bL, 5), 8);
        due("is panel 5;", x.plan(), 0);
        due("cells", x.count(1), 5);
        for (int k = 1; k <= 62; k++) {
            due("many", x.feed(0x2020202020202020L, 8), 8 * k);
        }
        due("too many", x.feed(0, 5), FULL);
        due("none came", x.count(5), 496);
        due("just full", x.feed(0x20202020, 4), 500);
        due("one too many", x.feed(0, 1), FULL);
        due("bad ahead of full", x.feed(0, 9), BAD);
        due("nothing but blanks", x.plan(), -1000600);
        due("empty", x.count(5), 0);
    }

    private static void planReads() {
        about("promise 7");
        SeamPull x = new SeamPull();
        feedText(x, " panel\n 12 ;\nseam tack 0 1 on 11 20 back 5 07\nskip 00 9 second 1 1 turned 2 2 flame 3 3 wait 1"
            + " wait 30 clamp 4 free 11;seam;seam;seam;seam;seam;before 5 0;before 0 5;before 5 0; ");
        due("acts", x.plan(), 11);
        due("cells", x.count(1), 12);
        due("seams", x.count(2), 6);
        due("befores", x.count(4), 3);
        due("07", x.act(2, 2), 7);
        x.open(3, 9);
        x.runs();
        feedText(x, "panel4;seam on0 1on 1 1;");
        due("without blanks", x.plan(), 2);
        due("no cell is set", x.open(3, 0), 0);
        due("nothing is done", x.cell(0, 2), 0);
        due("no minutes", x.minutes(), 0);
        x.open(1, 5);
        x.runs();
        feedText(x, "panel 4;seam on 0 1 on 0;");
        due("a fault", x.plan(), -1000124);
        due("the plan stays", x.count(3), 2);
        due("its cells stay set", x.open(1, 5), 5);
        due("its run stays", x.minutes(), 2);
        due("the tape is empty", x.count(5), 0);
    }

    private static void planRefuses() {
        about("promise 7");
        faulty("", 0, 1);
        faulty(" \n", 2, 1);
        faulty("panel", 5, 1);
        faulty("panel  ", 7, 1);
        faulty("seam;", 0, 1);
        faulty(" panels 4;", 1, 1);
        faulty("panelz 4;", 0, 1);
        faulty("Panel 4;", 0, 1);
        faulty("panel;", 5, 1);
        faulty("panel 3;", 6, 2);
        faulty("panel 13;", 6, 2);
        faulty("panel 004;", 6, 1);
        faulty("panel 99999999999999999999;", 6, 1);
        faulty("panel 4", 7, 1);
        faulty("panel 4 5;", 8, 1);
        faulty("panel 4;;", 8, 1);
        faulty("panel 4;\tseam;", 8, 1);
        faulty("panel 4;panel 4;", 8, 1);
        faulty("panel 4;on 1 1;", 8, 1);
        faulty("panel 4;seam on;", 15, 1);
        faulty("panel 4;seam on 4 0;", 16, 2);
        faulty("panel 4;seam on 1 0;", 18, 2);
        faulty("panel 4;seam on 1 21;", 18, 2);
        faulty("panel 4;seam on 1 121;", 18, 1);
        faulty("panel 4;seam on 1;", 17, 1);
        faulty("panel 4;seam on 1 1 1;", 20, 1);
        faulty("panel 4;seam wait 0;", 18, 2);
        faulty("panel 4;seam wait 31;", 18, 2);
        faulty("panel 4;seam wait 1 1;", 20, 1);
        faulty("panel 4;seam clamp 4;", 19, 2);
        faulty("panel 4;seam free 4;", 18, 2);
        faulty("panel 4;seam free 1 1;", 20, 1);
        faulty("panel 4;seam off 1 1;", 13, 1);
        faulty("panel 4;seam seam;", 13, 1);
        faulty("panel 4;seam", 12, 1);
        faulty("panel 4;seam;x", 13, 1);
        faulty("panel 4;seam;before 1 0;", 20, 2);
        faulty("panel 4;seam;before 0 0;", 22, 2);
        faulty("panel 4;seam;seam;before 0 2;", 27, 2);
        faulty("panel 4;seam;seam;before 0;", 26, 1);
        faulty("panel 4;seam;seam;before 0 1", 28, 1);
        faulty("panel 4;seam;seam;before 0 1;seam;", 29, 1);
        faulty("panel 4;before 0 0;", 15, 2);
        faulty("panel 4;\u00e4", 8, 1);
    }

    private static void planRoom() {
        about("promise 7");
        String seams = "panel 4;seam;seam;seam;seam;seam;seam;";
        faulty(seams + "seam;", 38, 3);
        faulty(seams + "seam off;", 38, 3);
        faulty(seams + "before 0 1;seam;", 49, 1);
        StringBuilder acts = new StringBuilder("panel 4;seam");
        for (int k = 0; k < 20; k++) {
            acts.append(" free 0");
        }
        acts.append(";seam");
        for (int k = 0; k < 20; k++) {
            acts.append(" wait 1");
        }
        due("forty", of(acts + ";").count(3), 40);
        faulty(acts + " free;", acts.length() + 1, 3);
        faulty(acts + " fre;", acts.length() + 1, 1);
        faulty(acts + ";seam clamp 0;", acts.length() + 6, 3);
        StringBuilder befores = new StringBuilder("panel 4;seam;seam;");
        for (int k = 0; k < 10; k++) {
            befores.append("before 0 1;");
        }
        due("ten", of(befores.toString()).count(4), 10);
        faulty(befores + "before;", befores.length(), 3);
        faulty(befores + "before", befores.length(), 3);
        faulty(befores + "befor", befores.length(), 1);
    }

    private static void fault() {
        about("promise 8");
        SeamPull x = new SeamPull();
        due("before one", x.fault(), 0);
        feedText(x, "panel 4;");
        x.plan();
        due("still before one", x.fault(), 0);
        feedText(x, "panel 3;");
        x.plan();
        due("a number", x.fault(), 2);
        feedText(x, "panel 4;");
        x.plan();
        due("the latest one", x.fault(), 2);
        x.plan();
        due("a later one", x.fault(), 1);
    }

    private static void act() {
        about("promise 9");
        SeamPull x = of("panel 9;seam;seam tack 0 1 on 1 2 back 2 3 skip 3 4;seam second 4 5 turned 5 6 flame 6 7;seam wait 30 clamp 8 free 7;");
        for (int a = 0; a < 7; a++) {
            due("kind", x.act(a, 0), a);
            due("cell", x.act(a, 1), a);
            due("strength", x.act(a, 2), a + 1);
            due("seam", x.act(a, 3), a < 4 ? 1 : 2);
        }
        int[] places = {30, 8, 7};
        for (int a = 7; a < 10; a++) {
            due("kind", x.act(a, 0), a);
            due("place", x.act(a, 1), places[a - 7]);
            due("no strength", x.act(a, 2), NONE);
            due("seam", x.act(a, 3), 3);
        }
        due("no such act", x.act(10, 0), BAD);
        due("act -1", x.act(-1, 0), BAD);
        due("what 4", x.act(0, 4), BAD);
        due("what -1", x.act(0, -1), BAD);
        due("no plan", new SeamPull().act(0, 0), BAD);
    }

    private static void open() {
        about("promise 10");
        SeamPull x = of("panel 4;");
        due("first", x.open(3, 40), 0);
        due("then", x.open(3, -40), 40);
        due("41", x.open(3, 41), BAD);
        due("-41", x.open(3, -41), BAD);
        due("cell 4", x.open(4, 0), BAD);
        due("cell -1", x.open(-1, 0), BAD);
        due("nothing changed", x.open(3, 1), -40);
        due("as it is set", x.cell(3, 2), 1);
        x.runs();
        x.open(3, 2);
        due("behind a run", x.cell(3, 2), 1);
        due("no plan", new SeamPull().open(0, 0), BAD);
    }

    private static void run() {
        about("promise 11");
        SeamPull x = new SeamPull();
        due("sheet 8", x.run(8, 0), BAD);
        due("sheet -1", x.run(-1, 0), BAD);
        due("no plan, ahead of null", x.run(0, -1), STATE);
        x = of("panel 4;seam on 1 4;seam turned 1 10;before 0 1;");
        due("null", x.run(0, -1), NULL);
        x.sheet(0, 0, 3);
        items(x, 0, 0, 0, 1, 0);
        due("place", x.run(0, 2), PLACE);
        due("place", x.run(0, -1), PLACE);
        due("place", x.run(0, HIGH), PLACE);
        due("status", x.status(), 2);
        due("by numbers", x.run(0, 0), 3);
        due("status", x.status(), 0);
        // -10, then 32 / 10: -7; a run's order need not fit
        due("the other way", x.run(0, 1), 5);
        due("it stands", x.cell(1, 2), -7);
        x.set(0, 1, 0);
        due("twice", x.run(0, 0), BAD);
        x.set(0, 1, 2);
        due("no such seam", x.run(0, 0), BAD);
        x.set(0, 1, -1);
        due("no such seam", x.run(0, 0), BAD);
        due("the latter stands", x.cell(1, 2), -7);
        x.set(0, 9, 0);
        due("status of a BAD one is that of the one ahead", x.run(0, 0) == BAD ? x.status() : 0, 2);
        x = of("panel 4;");
        x.sheet(0, 0, 2);
        due("none of them, at the end", x.run(0, 2), 0);
        due("beyond it", x.run(0, 3), PLACE);
    }

    private static void runs() {
        about("promise 12");
        due("no plan", new SeamPull().runs(), STATE);
        due("no seam", of("panel 4;").runs(), 0);
        SeamPull x = of("panel 4;seam on 1 4;");
        // heights 0 0 4 8 12: 12 at 1, by 4
        due("off", x.runs(), 3);
        due("again as at first", x.runs(), 3);
        x.open(1, -4);
        due("set open", x.runs(), 0);
        x.open(1, -5);
        // heights 0 0 -1 -2 -3: 3 by 4
        due("cut", x.runs(), 0);
        x.open(1, -8);
        due("the size of it", x.runs(), 3);
        x.set(0, 0, 0);
        x.runs();
        due("status is of sheets", x.status(), 1);
    }

    private static void steps() {
        about("promise 13");
        bendIs("on 1 7", 1, 7);
        bendIs("on 1 4 on 1 10", 1, 12);
        bendIs("tack 1 9", 1, 1);
        bendIs("tack 1 9 tack 1 9", 1, 1);
        bendIs("back 1 4", 1, 4);
        bendIs("on 2 1 back 1 4", 1, 3);
        bendIs("on 0 1 back 1 4", 1, 4);
        bendIs("back 3 4", 3, 4);
        bendIs("flame 2 1 back 1 4", 1, 4);
        bendIs("skip 1 4", 1, 3);
        bendIs("tack 0 1 skip 1 4", 1, 4);
        bendIs("tack 2 1 skip 1 4", 1, 3);
        bendIs("tack 0 1 tack 2 1 skip 1 4", 1, 3);
        bendIs("skip 0 4", 0, 3);
        bendIs("skip 3 4", 3, 3);
        bendIs("tack 2 1 skip 3 4", 3, 4);
        bendIs("second 1 9", 1, 9);
        bendIs("second 1 9 second 1 9", 1, 12);
        bendIs("turned 1 4", 1, -4);
        bendIs("turned 1 10 turned 1 3", 1, -12);
        bendIs("flame 1 5", 1, 5);
        bendIs("flame 1 5 flame 1 9", 1, -4);
        bendIs("flame 1 5 flame 1 5 flame 1 3", 1, 3);
        bendIs("turned 1 9 flame 1 5", 1, -5);
        due("flame holds nothing", ran("panel 4;seam flame 1 5;").cell(1, 1), 0);
        due("on holds 2", ran("panel 4;seam on 1 5;").cell(1, 1), 2);
        due("back holds 2", ran("panel 4;seam back 1 5;").cell(1, 1), 2);
        due("skip holds 2", ran("panel 4;seam skip 1 5;").cell(1, 1), 2);
        due("turned holds 2", ran("panel 4;seam turned 1 5;").cell(1, 1), 2);
        due("tack holds 1", ran("panel 4;seam tack 1 5;").cell(1, 1), 1);
        due("second holds 1", ran("panel 4;seam second 1 5;").cell(1, 1), 1);
    }

    private static void heat() {
        about("promise 13");
        due("on", ran("panel 4;seam on 1 20;").cell(1, 0), 60);
        due("tack", ran("panel 4;seam tack 1 9;").cell(1, 0), 6);
        due("flame", ran("panel 4;seam flame 1 20;").cell(1, 0), 90);
        due("second", ran("panel 4;seam second 1 3;").cell(1, 0), 9);
        due("waited", ran("panel 4;seam on 0 20 wait 2;").cell(0, 0), 33);
        due("waited long", ran("panel 4;seam on 0 20 wait 30;").cell(0, 0), 0);
        due("while another is welded", ran("panel 4;seam on 0 20 clamp 3 tack 1 1;").cell(0, 0), 45);
        // heat 90, 100: 64 / 10 by 2
        bendIs("flame 0 20 on 0 11 on 0 8", 0, 34);
        // heat 60, 99: 64 / 12
        bendIs("on 0 20 on 0 18 on 0 8", 0, 39);
        // heat 60, 105: 160 / 12 by 2
        bendIs("on 0 20 on 0 20 on 0 20", 0, 42);
        bendIs("on 0 20 on 0 20 wait 1 on 0 20", 0, 49);
    }

    private static void clamps() {
        about("promise 13");
        bendIs("clamp 1 on 1 5 free 1", 1, 2);
        bendIs("clamp 1 on 1 5", 1, 2);
        bendIs("clamp 1 turned 1 5", 1, -2);
        bendIs("clamp 1 on 1 5 free 1 free 1 clamp 1", 1, 2);
        bendIs("clamp 1 on 1 5 clamp 1 turned 1 5 free 1", 1, 0);
        bendIs("free 1 on 1 5", 1, 5);
        bendIs("clamp 2 on 1 5", 1, 5);
        // a flame looks at the bend, not at what the clamp keeps: 5 and 8 * 10 / 10
        bendIs("clamp 1 on 1 5 flame 1 10", 1, 6);
        bendIs("clamp 1 on 1 5 free 1 on 1 5", 1, 6);
        SeamPull x = ran("panel 4;seam clamp 1;seam on 1 5;");
        due("clamped across seams", x.cell(1, 2), 2);
        due("clamps keep no pull back", x.cell(1, 3), 15);
        due("a run begins unclamped", x.runs() * 0 + x.cell(1, 2), 2);
        x.sheet(0, 0, 2);
        x.set(0, 0, 1);
        x.run(0, 0);
        due("clamped behind it", x.cell(1, 2), 5);
    }

    private static void cell() {
        about("promise 13");
        SeamPull x = of("panel 5;seam on 1 4;");
        x.open(1, 7);
        due("heat at first", x.cell(1, 0), 0);
        due("bend as set", x.cell(1, 2), 7);
        due("pull at first", x.cell(1, 3), 0);
        x.runs();
        due("heat", x.cell(1, 0), 12);
        due("hold", x.cell(1, 1), 2);
        due("bend", x.cell(1, 2), 11);
        due("pull", x.cell(1, 3), 16);
        due("pull of another", x.cell(4, 3), -4);
        due("cell 5", x.cell(5, 0), BAD);
        due("cell -1", x.cell(-1, 0), BAD);
        due("what 4", x.cell(0, 4), BAD);
        due("what -1", x.cell(0, -1), BAD);
        feedText(x, "panel 5;seam on 1 4;");
        x.plan();
        due("of this plan", x.cell(1, 2), 0);
        due("no plan", new SeamPull().cell(0, 0), BAD);
    }

    private static void height() {
        about("promise 14");
        SeamPull x = new SeamPull();
        due("no plan ahead of bad", x.height(-1), STATE);
        x = of("panel 4;seam on 1 4 turned 2 9;");
        x.open(0, 1);
        int[] atFirst = {0, 1, 2, 3, 4};
        int[] behind = {0, 1, 6, 2, -2};
        for (int i = 0; i <= 4; i++) {
            due("as set", x.height(i), atFirst[i]);
        }
        x.runs();
        for (int i = 0; i <= 4; i++) {
            due("behind a run", x.height(i), behind[i]);
        }
        due("height 5", x.height(5), BAD);
        due("height -1", x.height(-1), BAD);
    }

    private static void minutes() {
        about("promise 15");
        SeamPull x = of("panel 4;seam on 1 4 wait 30 clamp 1 free 1;seam flame 0 1 wait 1;");
        due("ahead of a run", x.minutes(), 0);
        x.runs();
        due("behind", x.minutes(), 33);
        x.gives(0);
        x.best(-1);
        x.beforehand(0);
        due("of the latest run", x.minutes(), 33);
        feedText(x, "panel 4;");
        x.plan();
        due("of this plan", x.minutes(), 0);
    }

    private static void gives() {
        about("promise 16");
        SeamPull x = of("panel 4;seam on 1 4;seam turned 1 10;seam;");
        // by numbers -4: off 3; without 0: -10, 30 / 4; without 1: 4, 3
        due("ahead of a run", x.gives(0), 3 - 7);
        due("the other", x.gives(1), 0);
        due("an empty one", x.gives(2), 0);
        x.sheet(0, 0, 3);
        items(x, 0, 0, 1, 0, 2);
        x.run(0, 0);
        // -10 and 3: off 21 / 4
        due("by that order", x.gives(0), 5 - 7);
        due("by that order", x.gives(1), 5 - 3);
        x.open(1, 7);
        due("as it is set now", x.gives(1), 0 - 8);
        due("nothing is done", x.cell(1, 2), -7);
        x.runs();
        due("by numbers again", x.gives(0), 2 - 2);
        due("seam 3", x.gives(3), BAD);
        due("seam -1", x.gives(-1), BAD);
        due("no plan", new SeamPull().gives(0), BAD);
    }

    private static void best() {
        about("promise 17");
        SeamPull x = new SeamPull();
        due("bad ahead of state", x.best(-2), BAD);
        due("no plan", x.best(-1), STATE);
        x = of("panel 4;seam turned 1 10;seam on 1 4;");
        due("off", x.best(-1), 3);
        due("first", x.best(0), 1);
        due("second", x.best(1), 0);
        due("not so many", x.best(2), NONE);
        due("far", x.best(HIGH), NONE);
        due("bad", x.best(LOW), BAD);
        x.open(1, 7);
        due("as set", x.best(-1), 0);
        due("first as set", x.best(0), 0);
        due("nothing is done", x.cell(1, 0), 0);
        x = of("panel 4;seam turned 1 10;seam on 1 4;before 0 1;");
        due("what must be in", x.best(-1), 5);
        due("what must be in", x.best(0), 0);
        x = of("panel 4;seam on 0 1;seam on 1 1;seam on 2 1;before 2 0;");
        due("of several the first", x.best(0) * 100 + x.best(1) * 10 + x.best(2), 120);
        x = of("panel 4;seam;seam;seam;before 0 1;before 1 2;before 2 0;");
        due("a ring", x.best(-1), NONE);
        due("a ring", x.best(0), NONE);
        x = of("panel 4;");
        x.open(1, 4);
        due("no seam", x.best(-1), 3);
        due("no seam", x.best(0), NONE);
    }

    private static void orders() {
        about("promise 18");
        due("no plan", new SeamPull().orders(), STATE);
        due("no seam", of("panel 4;").orders(), 1);
        due("one", of("panel 4;seam;").orders(), 1);
        String six = "panel 4;seam;seam;seam;seam;seam;seam;";
        due("all", of(six).orders(), 720);
        due("half", of(six + "before 5 0;").orders(), 360);
        due("half, told twice", of(six + "before 5 0;before 5 0;").orders(), 360);
        due("chain", of(six + "before 5 0;before 0 1;").orders(), 120);
        due("only one", of(six + "before 5 4;before 4 3;before 3 2;before 2 1;before 1 0;").orders(), 1);
        due("a ring", of(six + "before 5 0;before 0 5;").orders(), 0);
    }

    private static void beforehand() {
        about("promise 19");
        due("no plan", new SeamPull().beforehand(0), BAD);
        SeamPull x = of("panel 4;seam on 0 7 clamp 2 on 2 9;seam flame 1 5 on 3 3 flame 3 5;");
        x.open(0, 33);
        x.open(3, -1);
        due("as much the other way", x.beforehand(0), -7);
        due("of two the one below 0", x.beforehand(1), -5);
        due("what the clamp gives back", x.beforehand(2), -4);
        due("the least in size", x.beforehand(3), 1);
        due("cell 4", x.beforehand(4), BAD);
        due("cell -1", x.beforehand(-1), BAD);
        due("nothing is set", x.open(0, 33), 33);
        due("nothing is done", x.cell(0, 2), 33);
        // 20, 16 and, as it is hot, 96 / 12 by 2
        x = of("panel 4;seam on 2 20 on 2 20 on 2 12;");
        due("just so far", x.beforehand(2), -40);
        x = of("panel 4;seam turned 2 20 turned 2 20 turned 2 12;");
        due("just so far the other way", x.beforehand(2), 40);
        x = of("panel 4;seam on 1 20 on 1 20 on 1 15;");
        due("one ahead", x.beforehand(0), 0);
        due("too far", x.beforehand(1), NONE);
        due("one ahead is", x.beforehand(2), NONE);
        due("one ahead is", x.beforehand(3), NONE);
    }

    private static void spots() {
        about("promise 20");
        SeamPull x = new SeamPull();
        due("p 0", x.spots(0, 0), BAD);
        due("p 21", x.spots(21, 0), BAD);
        due("t -1", x.spots(1, -1), BAD);
        due("t 41", x.spots(1, 41), BAD);
        due("no plan", x.spots(20, 40), STATE);
        x = of("panel 4;");
        due("none needed", x.spots(1, 0), 0);
        x.open(2, 7);
        due("just so much", x.spots(7, 6), 4);
        due("neighbours", x.spots(7, 0), NONE);
        due("one", x.spots(6, 1), 4);
        due("as it is", x.spots(1, 7), 0);
        x.open(2, -7);
        due("from below", x.spots(6, 1), 4);
        due("two beside one another, by numbers", x.spots(5, 1), 6);
        x.open(2, -2);
        due("a neighbour's does it, and is the least", x.spots(1, 1), 2);
        x.open(2, 0);
        x.open(0, 5);
        x.open(3, 5);
        due("two", x.spots(5, 1), 9);
        x.runs();
        x.open(0, 0);
        due("as cell() tells", x.spots(5, 1), 9);
        x = of("panel 12;");
        x.open(0, 9);
        x.open(5, 9);
        x.open(11, -9);
        due("three", x.spots(20, 1), 1 + 32 + 2048);
        x.open(8, 9);
        due("four", x.spots(20, 1), NONE);
    }

    private static void crack() {
        about("promise 21");
        SeamPull x = new SeamPull();
        due("cold 61", x.crack(61), BAD);
        due("cold -1", x.crack(-1), BAD);
        due("no plan", x.crack(60), NONE);
        x = of("panel 12;seam on 7 20 on 3 20;");
        due("ahead of a run", x.crack(60), NONE);
        x.runs();
        // pulls of both: 220 - 20
        due("just not", x.crack(25), NONE);
        due("just", x.crack(26), 3);
        due("in the cold", x.crack(60), 3);
        due("cold 0", x.crack(0), NONE);
    }

    private static void warm() {
        about("promise 22");
        due("no plan", new SeamPull().warm(), STATE);
        SeamPull x = of("panel 12;seam on 7 20 on 3 20;");
        due("ahead of a run", x.warm(), 60);
        x.runs();
        due("behind one", x.warm(), 25);
        due("at none", ran("panel 12;seam on 0 20 on 0 20 on 0 20;").warm(), NONE);
        // 11 times 27 (20 and 7) is 297: just at 0
        due("at 0", ran("panel 12;seam on 0 20 on 0 9;").warm(), 0);
        due("cracks at 1", ran("panel 12;seam on 0 20 on 0 9;").crack(1), 0);
    }

    private static void wire() {
        about("promise 23");
        SeamPull x = new SeamPull();
        due("sheet 8", x.wire(8, 0, 0), BAD);
        due("sheet -1", x.wire(-1, 0, 0), BAD);
        due("no plan ahead of what", x.wire(0, 0, -2), STATE);
        x = of("panel 4;");
        due("what -2 ahead of null", x.wire(0, 0, -2), BAD);
        due("what 4 ahead of null", x.wire(0, 0, 4), BAD);
        due("null", x.wire(0, -1, 0), NULL);
        x.sheet(0, 2, 6);
        items(x, 0, 0, 77, 5, 8, 18, 9999, -9999);
        due("cell 0", x.wire(0, 0, 0), -72);
        due("cell 1", x.wire(0, 0, 1), 75);
        due("cell 2", x.wire(0, 0, 2), 7);
        due("cell 3", x.wire(0, 0, 3), 9971);
        due("from 1 on", x.wire(0, 1, 3), -19998 - 9981);
        due("place 2", x.wire(0, 2, 0), PLACE);
        due("place -1", x.wire(0, -1, 0), PLACE);
        due("place far", x.wire(0, HIGH, 0), PLACE);
        due("status", x.status(), 2);
        x.set(0, 0, 10000);
        due("an item above", x.wire(0, 0, 3), BAD);
        due("not within the wire", x.wire(0, 1, 0), 3);
        x.set(0, 5, -10000);
        due("an item below", x.wire(0, 1, 0), BAD);
        x.set(0, 9, 0);
        due("steel of a bad one", x.wire(0, 1, -1), BAD);
        due("status stays", x.status(), 2);
    }

    private static void steel() {
        about("promise 23");
        SeamPull x = of("panel 4;seam on 1 4 turned 2 3;");
        x.sheet(0, 1, 5);
        due("ahead of a run all is flat", x.wire(0, 0, -1), 1);
        x.runs();
        due("flat beside a run", x.wire(0, 0, -1), NONE);
        // bends 4 and -3 twice by 4: 2 and -1
        items(x, 0, 0, 0, 0, 2, 3, 4);
        due("cut towards 0", x.wire(0, 0, -1), 2);
        // nine times: 9 and -6
        items(x, 0, 0, 0, 0, 9, 12, 15);
        due("nine", x.wire(0, 0, -1), 9);
        items(x, 0, 0, 0, 0, 10, 13, 16);
        due("ten is none", x.wire(0, 0, -1), NONE);
        x.open(1, 1);
        items(x, 0, 0, 50, 50, 52, 53, 54);
        due("beside the latest run, from 50 on", x.wire(0, 0, -1), 2);
        due("status", x.status(), 0);
        x = ran("panel 4;seam tack 1 1;");
        x.sheet(0, 1, 5);
        due("of several the least", x.wire(0, 0, -1), 1);
        items(x, 0, 0, 0, 0, 1, 2, 3);
        due("of four the least", x.wire(0, 0, -1), 4);
    }

    private static SeamPull allKinds() {
        return of("panel 12;seam tack 1 11 on 2 12 back 3 13 skip 4 14 second 5 15 turned 6 16 flame 7 17 wait 1 clamp 0 free 0;"
            + "seam flame 8 3 turned 9 2;");
    }

    private static void kind() {
        about("promise 24");
        SeamPull x = allKinds();
        for (int a = 0; a < 7; a++) {
            due("kind", x.kind(a), a + 1);
        }
        for (int a = 7; a < 10; a++) {
            due("no step", x.kind(a), BAD);
        }
        due("flame", x.kind(10), 7);
        due("act 12", x.kind(12), BAD);
        due("act -1", x.kind(-1), BAD);
        due("no plan", new SeamPull().kind(0), BAD);
    }

    private static void as() {
        about("promise 25");
        SeamPull x = allKinds();
        // by acts: which of the kinds 0 to 7 it is
        String[] is = {"01", "02", "023", "0234", "025", "026", "07"};
        for (int a = 0; a < 7; a++) {
            for (int kind = 0; kind <= 7; kind++) {
                boolean so = is[a].indexOf((char) ('0' + kind)) >= 0;
                due("as " + a + " " + kind, x.as(a, kind), so ? a + 1 : KIND);
                due("status", x.status(), so ? 0 : 3);
            }
        }
        due("found", x.as(0, 2), KIND);
        due("kind 8", x.as(0, 8), BAD);
        due("kind -1", x.as(0, -1), BAD);
        due("no step", x.as(7, 0), BAD);
        due("act 12", x.as(12, 0), BAD);
        due("act -1", x.as(-1, 0), BAD);
        due("status stays", x.status(), 3);
        due("no plan", new SeamPull().as(0, 0), BAD);
    }

    private static void ask() {
        about("promise 26");
        SeamPull x = allKinds();
        int[] sizes = {11, 13, 14, 32, 19, 11, -17};
        int[] marks = {100, 1, 2, 3, 4, -5, -11};
        for (int a = 0; a < 7; a++) {
            due("size of " + a, x.ask(a, 0), sizes[a]);
            due("mark of " + a, x.ask(a, 1), marks[a]);
        }
        due("flame 10", x.ask(10, 1), 7);
        due("turned 11", x.ask(11, 0), -9);
        due("what 2", x.ask(0, 2), BAD);
        due("what -1", x.ask(0, -1), BAD);
        due("no step", x.ask(8, 0), BAD);
        due("act 12", x.ask(12, 0), BAD);
        due("act -1", x.ask(-1, 0), BAD);
        due("what is refused leaves the trace", x.trace(0), 11);
        due("no plan", new SeamPull().ask(0, 0), BAD);
    }

    private static void trace() {
        about("promise 27");
        SeamPull x = allKinds();
        for (int a = 0; a < 7; a++) {
            String[] asked = BODIES[a].substring(BODIES[a].indexOf(':') + 1).split("\\|");
            for (int what = 0; what <= 1; what++) {
                String[] bodies = asked[what].split(",");
                x.ask(a, what);
                for (int i = 0; i < 16; i++) {
                    int want = i < bodies.length ? Integer.parseInt(bodies[i]) : NONE;
                    due("trace " + i + " of " + a + " " + what, x.trace(i), want);
                }
            }
        }
        due("trace -1", x.trace(-1), NONE);
        due("trace 16", x.trace(16), NONE);
        due("trace far", x.trace(HIGH), NONE);
    }

    private static void count() {
        about("promise 28");
        SeamPull x = of("panel 7;seam on 0 1 wait 2;seam;seam;before 0 1;before 1 2;");
        x.sheet(3, 0, 0);
        x.sheet(5, 1, 9);
        x.sheet(5, 2, 9);
        x.feed(0, 3);
        int[] want = {2, 7, 3, 2, 2, 3};
        for (int what = 0; what <= 5; what++) {
            due("count " + what, x.count(what), want[what]);
        }
        due("what 6", x.count(6), BAD);
        due("what -1", x.count(-1), BAD);
    }

    private static void status() {
        about("promise 29");
        SeamPull x = of("panel 4;seam on 0 1;");
        x.drop(0);
        due("null", x.status(), 1);
        x.drop(8);
        x.act(9, 9);
        x.feed(0, 9);
        x.runs();
        x.ask(0, 0);
        x.best(0);
        due("what is no call with a sheet, or is refused, leaves it", x.status(), 1);
        x.sheet(0, 1, 5);
        due("fine", x.status(), 0);
        x.set(0, 5, 1);
        due("place", x.status(), 2);
        x.sheet(1, 2, 5);
        x.copy(0, 0, 1, 0, 1);
        due("store", x.status(), 5);
        x.sheet(1, 2, -1);
        due("size", x.status(), 4);
        x.as(0, 3);
        due("kind", x.status(), 3);
        x.as(0, 2);
        due("fine", x.status(), 0);
        x.run(2, 0);
        due("null", x.status(), 1);
        x.run(0, 0);
        due("fine", x.status(), 0);
        x.wire(0, 1, 0);
        due("place", x.status(), 2);
        x.wire(0, 0, -1);
        due("none is no finding", x.status(), 0);
        SeamPull y = new SeamPull();
        y.drop(0);
        y.sheet(0, 0, 1);
        y.set(0, 7, 0);
        y.run(0, 0);
        y.wire(0, 0, 0);
        due("state leaves it", y.status(), 2);
    }
}

/** The sentences of "Terms", a test of its own for each; at the bound, and one beyond it on either side. */
final class TermsBounds extends Bench {
    private static final String[] STEP_WORDS = {"tack", "on", "back", "skip", "second", "turned", "flame"};
    private static final String SIX_SEAMS = "panel 4;seam;seam;seam;seam;seam;seam;";

    static void all(Sentences doc) {
        doc.ofPromise(0);
        answers(doc);
        sheets(doc);
        tokens(doc);
        texts(doc);
        faults(doc);
        cells(doc);
        shrinking(doc);
        acts(doc);
        runs(doc);
        orders(doc);
        spots(doc);
        cold(doc);
        wires(doc);
        asks(doc);
    }

    // ---- answers

    private static void answers(Sentences doc) {
        doc.test("Numbers go from 0 on.", TermsBounds::numbersFromNought);
        doc.test("All that is divided is cut towards 0.", TermsBounds::cutTowardsNought);
        doc.test("Refusals are answers, the first of these that fits: BAD (a number is not as told; there is no such thing), "
            + "STATE (as told), FULL (as told), then FINDINGS", TermsBounds::firstThatFits);
        doc.test("of several the first in time", TermsBounds::firstInTime);
        doc.test("-1000010 less 1 NULL (a SHEET that is missing), 2 PLACE (no such place of a SHEET), 3 KIND (a STEP that is not that), "
            + "4 SIZE (fewer than none), 5 STORE (SHEETS of two LANES).", TermsBounds::findings);
        doc.test("What is refused, or found, changes nothing but status().", Refusals::all);
    }

    private static void numbersFromNought() {
        SeamPull x = of("panel 4;seam on 0 1;seam wait 1;");
        due("act -1", x.act(-1, 0), BAD);
        due("act 0", x.act(0, 0), 1);
        due("the last act", x.act(1, 0), 7);
        due("act 2", x.act(2, 0), BAD);
        due("seam of act 0", x.act(0, 3), 0);
        due("seam of act 1", x.act(1, 3), 1);
        due("cell -1", x.cell(-1, 0), BAD);
        due("cell 0", x.cell(0, 0), 0);
        due("cell 3", x.cell(3, 0), 0);
        due("cell 4", x.cell(4, 0), BAD);
        due("seam -1", x.gives(-1), BAD);
        due("seam 1", x.gives(1), 0);
        due("seam 2", x.gives(2), BAD);
    }

    private static void cutTowardsNought() {
        // -24 by 10
        bendIs("on 1 4 turned 1 3", 1, 4 - 2);
        // -64 by 12 is -5, as it is hot by 2
        bendIs("on 0 20 on 0 20 turned 0 8", 0, 20 + 16 - 2);
        bendIs("clamp 1 turned 1 5", 1, -2);
        bendIs("clamp 1 on 1 5", 1, 2);
        // 9 by 2 is 4, 32 by 10
        bendIs("on 1 4 second 1 9", 1, 4 + 3);
        due("heat of 5", ran("panel 4;seam tack 1 5;").cell(1, 0), 3);
        SeamPull x = of("panel 4;");
        x.sheet(0, 1, 5);
        x.open(1, -1);
        due("off of 3 by 4", x.runs(), 0);
        x.open(1, -2);
        due("off of 6 by 4", x.runs(), 1);
        x.open(1, -3);
        x.runs();
        // -3 by 4, -6 by 4
        due("steel 1", x.wire(0, 0, -1), 1);
        items(x, 0, 0, 0, 0, -1, -2, -3);
        due("steel 2", x.wire(0, 0, -1), 2);
    }

    private static void firstThatFits() {
        SeamPull x = new SeamPull();
        due("bad ahead of state", x.run(8, 0), BAD);
        due("state ahead of null", x.run(0, 0), STATE);
        due("bad ahead of state", x.spots(0, 0), BAD);
        due("state", x.spots(1, 0), STATE);
        due("bad ahead of state", x.best(-2), BAD);
        due("state", x.best(-1), STATE);
        due("bad ahead of size", x.sheet(0, 3, -1), BAD);
        due("bad ahead of size", x.sheet(8, 0, -1), BAD);
        due("bad ahead of null", x.copy(0, 0, 8, 0, 1), BAD);
        due("bad ahead of null", x.set(8, 0, 0), BAD);
        feedText(x, times(500, " "));
        due("bad ahead of full", x.feed(0, 0), BAD);
        due("bad ahead of full", x.feed(0, 9), BAD);
        due("full", x.feed(0, 1), FULL);
        x = of("panel 4;seam wait 1;");
        due("bad ahead of kind", x.as(0, 7), BAD);
        due("bad ahead of null", x.wire(0, 0, 4), BAD);
        due("bad ahead of null", x.run(8, 0), BAD);
    }

    private static void firstInTime() {
        SeamPull x = of("panel 4;seam on 0 1;");
        x.sheet(0, 0, 1);
        x.sheet(1, 1, 1);
        x.set(0, 0, 9);
        due("null ahead of place", x.set(2, 5, 0), NULL);
        due("null ahead of place", x.run(2, 5), NULL);
        due("null ahead of place", x.wire(2, 5, 0), NULL);
        due("null of a ahead of place", x.copy(2, -1, 0, -1, -1), NULL);
        due("null of b ahead of place", x.copy(0, -1, 2, -1, -1), NULL);
        due("store ahead of place", x.copy(0, -1, 1, -1, -1), STORE);
        due("place ahead of an item", x.run(0, 1), PLACE);
        due("an item", x.run(0, 0), BAD);
    }

    private static void findings() {
        SeamPull x = of("panel 4;seam on 0 1;");
        due("null", x.drop(0), -1000011);
        due("its number", x.status(), 1);
        x.sheet(0, 0, 0);
        due("place", x.set(0, 0, 0), -1000012);
        due("its number", x.status(), 2);
        due("kind", x.as(0, 1), -1000013);
        due("its number", x.status(), 3);
        due("size", x.sheet(0, 0, -1), -1000014);
        due("its number", x.status(), 4);
        x.sheet(1, 1, 0);
        due("store", x.copy(0, 0, 1, 0, 0), -1000015);
        due("its number", x.status(), 5);
    }

    // ---- sheets

    private static void sheets(Sentences doc) {
        doc.test("SHEETS 0 .. 7 are missing (at first)", () -> {
            SeamPull x = new SeamPull();
            due("how many", x.count(0), 0);
            for (int s = -1; s <= 8; s++) {
                due("drop " + s, x.drop(s), s < 0 || s > 7 ? BAD : NULL);
            }
            for (int s = 0; s <= 7; s++) {
                due("sheet " + s, x.sheet(s, 0, s), s);
                due("how many", x.count(0), s + 1);
            }
        });
        doc.test("or have a LANE (0 bytes, 1 shorts, 2 ints)", () -> {
            SeamPull x = new SeamPull();
            int[] of70000 = {112, 4464, 70000};
            for (int lane = 0; lane <= 2; lane++) {
                due("lane " + lane, x.sheet(lane, lane, 1), 1);
                due("an item of it", x.set(lane, 0, 70000), of70000[lane]);
            }
            due("lane -1", x.sheet(0, -1, 1), BAD);
            due("lane 3", x.sheet(0, 3, 1), BAD);
        });
        doc.test("and 0 to 40 ITEMS", () -> {
            SeamPull x = new SeamPull();
            due("-1", x.sheet(0, 0, -1), SIZE);
            due("none", x.sheet(0, 0, 0), 0);
            due("no item 0", x.set(0, 0, 1), PLACE);
            due("one", x.sheet(0, 0, 1), 1);
            due("item 0", x.set(0, 0, 1), 1);
            due("no item 1", x.set(0, 1, 1), PLACE);
            due("forty", x.sheet(0, 0, 40), 40);
            due("item 39", x.set(0, 39, 1), 1);
            due("no item 40", x.set(0, 40, 1), PLACE);
            due("41", x.sheet(0, 0, 41), BAD);
        });
        doc.test(", 0 at first.", () -> {
            for (int lane = 0; lane <= 2; lane++) {
                SeamPull x = of("panel 4;");
                x.sheet(0, lane, 40);
                for (int i = 0; i < 40; i++) {
                    x.set(0, i, -1);
                }
                x.drop(0);
                x.sheet(0, lane, 40);
                // Beside one that is 0 for sure, as a wire tells only how they differ.
                x.sheet(1, lane, 5);
                x.set(1, 0, 0);
                for (int i = 0; i < 40; i++) {
                    x.copy(0, i, 1, 1, 1);
                    due("item " + i, x.wire(1, 0, 0), 0);
                }
            }
        });
    }

    // ---- tokens

    private static void tokens(Sentences doc) {
        doc.test("THE TAPE has at most 500 bytes", () -> {
            SeamPull x = new SeamPull();
            feedText(x, times(499, " "));
            due("499", x.count(5), 499);
            due("two more", x.feed(0x2020, 2), FULL);
            due("one more", x.feed(0x20, 1), 500);
            due("500", x.count(5), 500);
            due("and another", x.feed(0x20, 1), FULL);
            due("all are read", x.plan(), -1000600);
            due("a plan of 500 bytes", read(x, "panel 4;" + times(487, "\n") + "seam;"), 0);
            due("its seam", x.count(2), 1);
        });
        doc.test("NAMES (letters a to z)", () -> {
            reads("panel 4;", 0);
            for (char none : new char[] {'`', '{', '@', '[', 'A', 'N', 'Z', '_', 225, 250}) {
                faulty("panel 4;seam " + none + " 0 1;", 13, 1);
                faulty("p" + none + "nel 4;", 0, 1);
                faulty("panel" + none + " 4;", 5, 1);
                faulty("panel 4;seam on" + none + "0 1;", 15, 1);
            }
            faulty("panel 4;seam z 0 1;", 13, 1);
            faulty("panel 4;seam a 0 1;", 13, 1);
            // A name goes on as far as its letters.
            faulty("panel 4;seamon 0 1;", 8, 1);
            faulty("panel 4;seam ona 0 1;", 13, 1);
            faulty("panel 4;seam onz 0 1;", 13, 1);
            reads("panel4;seam on0 1on3 1;", 2);
            faulty("panel 4;seam o n 0 1;", 13, 1);
        });
        doc.test("NUMBERS (figures, 2 at most)", () -> {
            reads("panel 4;seam on 0 9;", 1);
            reads("panel 04;seam on 00 09;", 1);
            faulty("panel 004;", 6, 1);
            faulty("panel 4;seam on 000 9;", 16, 1);
            faulty("panel 4;seam on 0 009;", 18, 1);
            faulty("panel 4;seam wait 001;", 18, 1);
            faulty("panel 4;seam on 0 4294967297;", 18, 1);
            faulty("panel 4;seam on 0 1 1;", 20, 1);
            for (char none : new char[] {'/', ':', '-', '+', '.'}) {
                faulty("panel " + none + "4;", 6, 1);
            }
            faulty("panel 4:", 7, 1);
            faulty("panel 4/", 7, 1);
        });
        doc.test("SIGNS ;", () -> {
            reads("panel 4;seam;", 0);
            for (char none : new char[] {':', '<', ',', '.', 59 + 128}) {
                faulty("panel 4" + none, 7, 1);
                faulty("panel 4;seam" + none, 12, 1);
            }
            faulty("panel 4;;", 8, 1);
            faulty(";", 0, 1);
        });
        doc.test("bytes 32 and 10 between.", () -> {
            reads("\n panel\n\n4 \n;\n", 0);
            for (char none : new char[] {0, 9, 11, 13, 31, 33, 127, 32 + 128, 10 + 128, 255}) {
                faulty("panel" + none + "4;", 5, 1);
                faulty(none + "panel 4;", 0, 1);
                faulty("panel 4;" + none, 8, 1);
                faulty("panel 4" + none + ";", 7, 1);
            }
        });
    }

    // ---- texts

    private static void texts(Sentences doc) {
        doc.test("text: 'panel' NUMBER ';' { 'seam' { act } ';' } { 'before' NUMBER NUMBER ';' }", TermsBounds::text);
        doc.test("act: kind NUMBER NUMBER (a CELL, a STRENGTH 1 to 20)", TermsBounds::stepNumbers);
        doc.test("'wait' NUMBER (MINUTES, 1 to 30)", () -> {
            reads("panel 4;seam wait 1;", 1);
            reads("panel 4;seam wait 30;", 1);
            faulty("panel 4;seam wait 0;", 18, 2);
            faulty("panel 4;seam wait 31;", 18, 2);
            faulty("panel 4;seam wait 99;", 18, 2);
            faulty("panel 4;seam wait;", 17, 1);
            faulty("panel 4;seam wait 1 1;", 20, 1);
            due("minutes, not a cell", of("panel 4;seam wait 30;").act(0, 1), 30);
        });
        doc.test("'clamp' NUMBER | 'free' NUMBER (a CELL)", () -> {
            for (String word : new String[] {"clamp", "free"}) {
                int at = 14 + word.length();
                reads("panel 4;seam " + word + " 0;", 1);
                reads("panel 4;seam " + word + " 3;", 1);
                reads("panel 12;seam " + word + " 11;", 1);
                faulty("panel 4;seam " + word + " 4;", at, 2);
                faulty("panel 12;seam " + word + " 12;", at + 1, 2);
                faulty("panel 4;seam " + word + ";", at - 1, 1);
                faulty("panel 4;seam " + word + " 0 1;", at + 2, 1);
            }
        });
        doc.test("kind: 'tack' | 'on' | 'back' | 'skip' | 'second' | 'turned' | 'flame' (0 to 6).", () -> {
            for (int kind = 0; kind <= 6; kind++) {
                due(STEP_WORDS[kind], of("panel 4;seam " + STEP_WORDS[kind] + " 0 1;").act(0, 0), kind);
                faulty("panel 4;seam " + STEP_WORDS[kind] + "s 0 1;", 13, 1);
                faulty("panel 4;seam " + STEP_WORDS[kind].substring(1) + " 0 1;", 13, 1);
            }
        });
        doc.test("A PANEL has 4 to 12 CELLS.", () -> {
            faulty("panel 0;", 6, 2);
            faulty("panel 3;", 6, 2);
            faulty("panel 13;", 6, 2);
            faulty("panel 99;", 6, 2);
            for (int cells = 4; cells <= 12; cells++) {
                SeamPull x = of("panel " + cells + ";");
                due("cells", x.count(1), cells);
                due("the last", x.cell(cells - 1, 2), 0);
                due("none behind", x.cell(cells, 2), BAD);
            }
        });
        doc.test("SEAMS 0 .. 5 (6 at most)", () -> {
            SeamPull x = of(SIX_SEAMS);
            due("six", x.count(2), 6);
            due("seam 5", x.gives(5), 0);
            due("seam 6", x.gives(6), BAD);
            due("none", of("panel 4;").count(2), 0);
            due("seam 0 of none", of("panel 4;").gives(0), BAD);
            faulty(SIX_SEAMS + "seam;", 38, 3);
        });
        doc.test("ACTS 40 at most in all, numbered as they come.", TermsBounds::fortyActs);
        doc.test("'before': a SEAM that has to be done ahead of another one (10 at most).", () -> {
            String two = "panel 4;seam;seam;";
            due("nine", of(two + times(9, "before 0 1;")).count(4), 9);
            SeamPull x = of(two + times(10, "before 1 0;"));
            due("ten", x.count(4), 10);
            due("the first ahead of the other", x.best(0), 1);
            due("only so", x.orders(), 1);
            faulty(two + times(11, "before 1 0;"), 18 + 110, 3);
        });
        doc.test("A PLAN that is read stands in place of the one before (none at first); nothing is done of it.", () -> {
            SeamPull x = new SeamPull();
            due("none at first", x.runs(), STATE);
            read(x, "panel 12;seam on 9 5 on 9 5;seam;seam;before 0 1;");
            x.runs();
            due("one act", read(x, "panel 4;seam tack 3 1;"), 1);
            int[] counts = {0, 4, 1, 1, 0, 0};
            for (int what = 0; what <= 5; what++) {
                due("count " + what, x.count(what), counts[what]);
            }
            due("no act of the other", x.act(1, 0), BAD);
            due("no cell of the other", x.cell(9, 2), BAD);
            due("no seam of the other", x.gives(1), BAD);
            due("none of its 'before'", x.orders(), 1);
            due("nothing is done", x.cell(3, 1) + x.cell(3, 2) + x.minutes(), 0);
            planByPlan();
        });
    }

    /** What was asked of a plan, and found, is not told of the next ones. */
    private static void planByPlan() {
        SeamPull x = new SeamPull();
        String[] texts = {"panel 5;seam on 0 4 on 1 4;seam turned 1 10;before 0 1;", "panel 4;seam tack 3 1;",
            "panel 6;seam;seam on 1 20;seam;before 1 0;before 0 1;", "panel 4;seam turned 1 4;seam;before 1 0;",
            "panel 4;seam;seam turned 1 4;", "panel 4;seam;seam;"};
        int[][] counts = {{5, 2, 3, 1}, {4, 1, 1, 0}, {6, 3, 1, 2}, {4, 2, 1, 1}, {4, 2, 1, 0}, {4, 2, 0, 0}};
        int[] orders = {1, 1, 0, 1, 2, 2}, first = {0, 0, NONE, 1, 0, 0}, ofCell1 = {4, 0, -20, 4, 4, 0};
        // 4 and -4 of five, so all heights behind the first are 4: 16 by 5; 1 at the last of four: 3 by 4; -4: 12 by 4
        int[] off = {3, 0, NONE, 3, 3, 0};
        for (int k = 0; k < texts.length; k++) {
            due("acts", read(x, texts[k]), counts[k][2]);
            for (int what = 1; what <= 4; what++) {
                due("count " + what, x.count(what), counts[k][what - 1]);
            }
            due("orders", x.orders(), orders[k]);
            due("orders, asked again", x.orders(), orders[k]);
            due("off of the best", x.best(-1), off[k]);
            due("first of the best", x.best(0), first[k]);
            due("beforehand", x.beforehand(1), ofCell1[k]);
            due("the last height", x.height(4), 0);
            // Every other time, as what was found may be looked for anew behind open(), too.
            if (k % 2 == 1) {
                due("set", x.open(2, 9), 0);
                due("ahead of a run as it is set", x.cell(2, 2), 9);
            }
            x.runs();
        }
    }

    private static void text() {
        reads("panel 4;", 0);
        reads("panel 4;seam;", 0);
        reads("panel 4;seam;seam;before 0 1;", 0);
        reads("panel 4;seam tack 0 1 wait 1 clamp 0 free 0;seam;before 1 0;before 0 1;", 4);
        faulty("", 0, 1);
        faulty("4;", 0, 1);
        faulty("before 0 1;", 0, 1);
        faulty("panel", 5, 1);
        faulty("panel ;", 6, 1);
        faulty("panel four;", 6, 1);
        faulty("panel 4", 7, 1);
        faulty("panel 4 seam;", 8, 1);
        faulty("panel 4;4", 8, 1);
        faulty("panel 4;panel 4;", 8, 1);
        faulty("panel 4;tack 0 1;", 8, 1);
        faulty("panel 4;seam", 12, 1);
        faulty("panel 4;seam 0;", 13, 1);
        faulty("panel 4;seam tack 0 1", 21, 1);
        faulty("panel 4;seam tack 0 1 before 0 1;", 22, 1);
        faulty("panel 4;seam;;", 13, 1);
        faulty("panel 4;seam;seam;before", 24, 1);
        faulty("panel 4;seam;seam;before;", 24, 1);
        faulty("panel 4;seam;seam;before 0", 26, 1);
        faulty("panel 4;seam;seam;before 0;", 26, 1);
        faulty("panel 4;seam;seam;before 0 1", 28, 1);
        faulty("panel 4;seam;seam;before 0 1 0;", 29, 1);
        faulty("panel 4;seam;seam;before 0 1;;", 29, 1);
        faulty("panel 4;seam;seam;before 0 1;seam;", 29, 1);
        faulty("panel 4;seam;seam;before 0 1;on 0 1;", 29, 1);
    }

    private static void stepNumbers() {
        for (String word : STEP_WORDS) {
            String head = "panel 4;seam " + word;
            int at = head.length() + 1;
            reads(head + " 0 1;", 1);
            reads(head + " 3 20;", 1);
            faulty(head + " 4 1;", at, 2);
            faulty(head + " 99 1;", at, 2);
            faulty(head + " 0 0;", at + 2, 2);
            faulty(head + " 0 21;", at + 2, 2);
            faulty(head + " 0 99;", at + 2, 2);
            faulty(head + ";", at - 1, 1);
            faulty(head + " 0;", at + 1, 1);
            faulty(head + " 0 1 1;", at + 4, 1);
            reads("panel 12;seam " + word + " 11 20;", 1);
            faulty("panel 12;seam " + word + " 12 20;", at + 1, 2);
        }
    }

    private static void fortyActs() {
        String twenty = "seam" + times(20, " on 1 1") + ";";
        SeamPull x = of("panel 4;" + twenty + twenty);
        due("forty", x.count(3), 40);
        due("act 39", x.act(39, 3), 1);
        due("act 40", x.act(40, 3), BAD);
        due("act 19", x.act(19, 3), 0);
        due("act 20", x.act(20, 3), 1);
        faulty("panel 4;seam" + times(41, " on 1 1") + ";", 12 + 40 * 7 + 1, 3);
        faulty("panel 4;" + twenty + twenty + "seam wait 1;", 8 + 2 * 145 + 5, 3);
        reads("panel 4;" + twenty + twenty + "seam;", 40);
    }

    // ---- faults

    private static void faults(Sentences doc) {
        doc.test("FAULTS, the first TOKEN that has one (its first byte)", () -> {
            faulty("panel 3;seam off;", 6, 2);
            faulty("panel   13 13;", 8, 2);
            faulty("panel 4;seam on 9 99;", 16, 2);
            faulty("panel 4;seam\n\nturner 9 99;", 14, 1);
            faulty("panel 4;seam;before 7 7 7", 20, 2);
            faulty("panel 4;seam on 3 21 ?", 18, 2);
        });
        doc.test("of one TOKEN the least", () -> {
            // No room for a seam, but it cannot stand there either.
            faulty(SIX_SEAMS + "before 0 1;seam;", 49, 1);
            faulty(SIX_SEAMS + "seams;", 38, 1);
            faulty("panel 4;seam" + times(40, " free 0") + " seam;", 12 + 280 + 1, 1);
            faulty("panel 4;seam;seam;" + times(10, "before 0 1;") + "seam;", 128, 1);
            // Not as told, but no number at all.
            faulty("panel 4;seam on 999 1;", 16, 1);
            faulty("panel 4;before 100 1;", 15, 1);
        });
        doc.test("1 it cannot stand there, or is none (the end: how many bytes there are)", () -> {
            faulty("", 0, 1);
            faulty(" ", 1, 1);
            faulty("panel 4", 7, 1);
            faulty("panel 4  \n", 10, 1);
            faulty("panel 4;seam on 1 1\n", 20, 1);
            faulty(times(500, " "), 500, 1);
            faulty(times(499, " ") + "p", 499, 1);
            faulty("panel 4;seam 1;", 13, 1);
            faulty("panel 4;seam ?;", 13, 1);
            faulty("panel 4;seam\u0000;", 12, 1);
        });
        doc.test("2 a NUMBER that is not as told (a SEAM that is not there, or is the other one)", () -> {
            faulty("panel 4;before 0 1;", 15, 2);
            faulty("panel 4;seam;before 1 0;", 20, 2);
            faulty("panel 4;seam;before 0 1;", 22, 2);
            faulty("panel 4;seam;before 0 0;", 22, 2);
            faulty("panel 4;seam;seam;before 0 2;", 27, 2);
            faulty("panel 4;seam;seam;before 2 0;", 25, 2);
            faulty("panel 4;seam;seam;before 1 1;", 27, 2);
            faulty("panel 4;seam;seam;before 1 01;", 27, 2);
            faulty(SIX_SEAMS + "before 5 6;", 47, 2);
            faulty(SIX_SEAMS + "before 6 5;", 45, 2);
            reads(SIX_SEAMS + "before 5 0;before 0 5;", 0);
        });
        doc.test("3 a SEAM, an ACT, a 'before' more than there is room for (its first word).", () -> {
            String acts = "panel 4;seam" + times(40, " free 0");
            faulty(SIX_SEAMS + " seam", 39, 3);
            faulty(SIX_SEAMS + "seam 7 ?", 38, 3);
            for (String word : new String[] {"tack", "on", "back", "skip", "second", "turned", "flame", "wait", "clamp", "free"}) {
                faulty(acts + " " + word + " 99;", acts.length() + 1, 3);
            }
            String befores = "panel 4;seam;seam;" + times(10, "before 0 1;");
            faulty(befores + "before 9 9;", befores.length(), 3);
            faulty(befores + "\nbefore", befores.length() + 1, 3);
        });
    }

    // ---- cells

    private static void cells(Sentences doc) {
        doc.test("Each CELL has HEAT, HOLD, BEND, SPRING, all 0 at first (BEND: as it is SET), may be CLAMPED, "
            + "and has a PULL, 0 at first.", () -> {
            SeamPull x = of("panel 5;seam on 0 9 clamp 1 on 1 9;");
            x.open(1, -40);
            for (int c = 0; c < 5; c++) {
                due("heat", x.cell(c, 0), 0);
                due("hold", x.cell(c, 1), 0);
                due("bend", x.cell(c, 2), c == 1 ? -40 : 0);
                due("pull", x.cell(c, 3), 0);
            }
            x.runs();
            int off = x.runs();
            due("a run begins as the one ahead", x.runs(), off);
            // 9 and half of 9 in the clamp: no spring, no clamp is left of the run ahead
            due("bend", x.cell(0, 2), 9);
            due("bend of the clamped one", x.cell(1, 2), -40 + 4);
        });
        doc.test("A MINUTE: HEAT of each CELL becomes 3 of its 4 parts, cut.", () -> {
            int[] behind = {0, 1, 2, 3, 3, 4, 5, 6, 6};
            for (int p = 1; p <= 9; p++) {
                due("heat of " + p, ran("panel 4;seam tack 2 " + p + ";").cell(2, 0), behind[p - 1]);
            }
            int[] later = {60, 45, 33, 24, 18, 13, 9, 6, 4, 3, 2, 1, 0, 0};
            for (int m = 1; m < later.length; m++) {
                due("waited " + m, ran("panel 4;seam on 1 20 wait " + m + ";").cell(1, 0), later[m]);
            }
            SeamPull x = ran("panel 4;seam on 0 20 on 3 20 tack 1 1;");
            due("of each", x.cell(0, 0), 33);
            due("of each", x.cell(3, 0), 45);
            due("none becomes none", x.cell(2, 0), 0);
        });
    }

    private static void shrinking(Sentences doc) {
        doc.test("it SHRINKS: on: p; tack: 1", () -> {
            bendIs("on 0 1", 0, 1);
            bendIs("on 3 20", 3, 20);
            bendIs("tack 0 1", 0, 1);
            bendIs("tack 3 20", 3, 1);
        });
        doc.test("back: p, 1 less if the CELL behind (one more) has HOLD", () -> {
            bendIs("back 2 4", 2, 4);
            bendIs("tack 3 1 back 2 4", 2, 3);
            bendIs("tack 3 1 back 2 1", 2, 0);
            bendIs("tack 1 1 back 2 4", 2, 4);
            bendIs("flame 3 9 back 2 4", 2, 4);
            // There is none behind the last.
            bendIs("tack 2 1 tack 0 1 back 3 4", 3, 4);
            // Its own hold is none of one behind: 40 by 10
            bendIs("on 2 4 back 2 5", 2, 4 + 4);
        });
        doc.test("skip: what back does, 1 less if neither neighbour has HOLD (one that is not there has none)", () -> {
            bendIs("skip 1 1", 1, 0);
            bendIs("skip 1 20", 1, 19);
            bendIs("tack 0 1 skip 1 1", 1, 1);
            bendIs("tack 2 1 skip 1 1", 1, 0);
            bendIs("tack 2 1 skip 1 20", 1, 19);
            bendIs("tack 0 1 tack 2 1 skip 1 20", 1, 19);
            bendIs("tack 3 1 skip 1 20", 1, 19);
            bendIs("skip 0 4", 0, 3);
            bendIs("tack 3 1 skip 0 4", 0, 3);
            bendIs("tack 1 1 skip 0 4", 0, 3);
            bendIs("skip 3 4", 3, 3);
            bendIs("tack 0 1 skip 3 4", 3, 3);
            bendIs("tack 2 1 skip 3 4", 3, 4);
            bendIs("flame 2 4 skip 3 4", 3, 3);
        });
        doc.test("second: p by 2, if the CELL has HOLD, else p", () -> {
            bendIs("second 1 1", 1, 1);
            bendIs("second 1 20", 1, 20);
            bendIs("tack 1 1 second 1 1", 1, 1);
            // 10 by 2 is 5: 40 by 9
            bendIs("tack 1 1 second 1 10", 1, 1 + 4);
            bendIs("tack 1 1 second 1 11", 1, 1 + 4);
            bendIs("tack 0 1 tack 2 1 second 1 10", 1, 10);
            bendIs("flame 1 5 second 1 10", 1, 5 + 10);
        });
        doc.test("turned: 0 less p", () -> {
            bendIs("turned 0 1", 0, -1);
            bendIs("turned 3 20", 3, -20);
        });
        doc.test("flame: 0 less p, if BEND is above 0, else p.", () -> {
            SeamPull x = of("panel 4;seam flame 0 20 flame 1 20 flame 2 20 flame 3 1;");
            x.open(0, -1);
            x.open(2, 1);
            x.open(3, 40);
            x.runs();
            due("below 0", x.cell(0, 2), 19);
            due("at 0", x.cell(1, 2), 20);
            due("above 0", x.cell(2, 2), -19);
            due("far above", x.cell(3, 2), 39);
            // What the clamp keeps is no bend.
            bendIs("clamp 1 on 1 5 flame 1 5", 1, (5 + 4) / 2);
        });
        doc.test("e is 8 times that by (8 and HOLD)", () -> {
            bendIs("tack 1 1 tack 1 1", 1, 1);
            bendIs("tack 1 1 on 1 8", 1, 1 + 7);
            bendIs("tack 1 1 on 1 9", 1, 1 + 8);
            bendIs("on 1 1 on 1 5", 1, 1 + 4);
            bendIs("on 1 1 on 1 1", 1, 1);
            bendIs("on 1 1 on 1 2", 1, 1 + 1);
            bendIs("on 1 1 turned 1 1", 1, 1);
            bendIs("on 0 9 on 1 9", 1, 9);
        });
        doc.test("if HEAT is 100 or more, e by 2.", () -> {
            // 60 and 72 are 132, a minute: 99; 64 by 12
            bendIs("on 0 20 on 0 18 on 0 8", 0, 20 + 14 + 5);
            // 90 and 44 are 134, a minute: 100; 64 by 10 by 2
            bendIs("flame 0 20 on 0 11 on 0 8", 0, 20 + 11 + 3);
            // 60 and 80 are 140, a minute: 105; 160 by 12 by 2
            bendIs("on 0 20 on 0 20 on 0 20", 0, 20 + 16 + 6);
            bendIs("on 0 20 on 0 20 wait 1 on 0 20", 0, 20 + 16 + 13);
            // Another's heat is not its own.
            bendIs("on 0 20 on 0 20 on 1 20", 1, 20);
        });
    }

    private static void acts(Sentences doc) {
        doc.test("If the CELL is CLAMPED, SPRING becomes e more, else BEND.", () -> {
            bendIs("clamp 1 on 1 20", 1, 10);
            bendIs("clamp 1 on 1 20 on 1 5", 1, 12);
            bendIs("clamp 0 clamp 2 on 1 20", 1, 20);
        });
        doc.test("PULL of the CELL becomes e times (how many CELLS less 1) more, of each other one e less.", () -> {
            for (int cells = 4; cells <= 12; cells += 8) {
                SeamPull x = ran("panel " + cells + ";seam on 1 20 clamp 3 turned 3 3;");
                int sum = 0;
                for (int c = 0; c < cells; c++) {
                    due("pull " + c, x.cell(c, 3), c == 1 ? 20 * (cells - 1) + 3 : c == 3 ? -3 * (cells - 1) - 20 : -17);
                    sum += x.cell(c, 3);
                }
                due("all pulls", sum, 0);
            }
        });
        doc.test("HEAT becomes more by 4 p (tack: p; flame: 6 p), HOLD by 2 (tack, second: 1; flame: 0).", () -> {
            int[] of1 = {0, 3, 3, 3, 3, 3, 4}, of20 = {15, 60, 60, 60, 60, 60, 90}, hold = {1, 2, 2, 2, 1, 2, 0};
            for (int kind = 0; kind <= 6; kind++) {
                due("heat of 1", ran("panel 4;seam " + STEP_WORDS[kind] + " 1 1;").cell(1, 0), of1[kind]);
                SeamPull x = ran("panel 4;seam " + STEP_WORDS[kind] + " 1 20;");
                due("heat of 20", x.cell(1, 0), of20[kind]);
                due("hold", x.cell(1, 1), hold[kind]);
                due("no heat of a neighbour", x.cell(0, 0) + x.cell(2, 0), 0);
                due("no hold of a neighbour", x.cell(0, 1) + x.cell(2, 1), 0);
            }
            due("hold of all", ran("panel 4;seam" + times(40, " on 1 1") + ";").cell(1, 1), 80);
        });
        doc.test("Then a MINUTE.", () -> {
            for (String word : STEP_WORDS) {
                due(word, ran("panel 4;seam " + word + " 1 1;").minutes(), 1);
            }
            due("forty", ran("panel 4;seam" + times(40, " on 1 1") + ";").minutes(), 40);
        });
        doc.test("wait: so many MINUTES.", () -> {
            due("1", ran("panel 4;seam wait 1;").minutes(), 1);
            due("30", ran("panel 4;seam wait 30;").minutes(), 30);
            due("40 times 30", ran("panel 4;seam" + times(40, " wait 30") + ";").minutes(), 1200);
            due("heat", ran("panel 4;seam on 1 20 wait 1;").cell(1, 0), 45);
            // Its number is no cell.
            bendIs("wait 1 on 1 5", 1, 5);
        });
        doc.test("clamp: the CELL is CLAMPED. free: it is not any more: BEND becomes SPRING by 2 more, SPRING 0.", () -> {
            bendIs("clamp 1 tack 1 1 free 1", 1, 0);
            bendIs("clamp 1 on 1 2 free 1", 1, 1);
            bendIs("clamp 1 turned 1 3 free 1", 1, -1);
            // 8 * 5 by 10 is no spring any more
            bendIs("clamp 1 on 1 4 free 1 on 1 5", 1, 2 + 4);
            bendIs("clamp 1 on 1 4 free 1 clamp 1 on 1 5", 1, 2 + 2);
            bendIs("clamp 1 on 1 4 free 1 clamp 1 on 1 4", 1, 2 + 1);
            bendIs("clamp 1 on 1 4 free 1 clamp 1 free 1", 1, 2);
        });
        doc.test("(Neither takes a MINUTE; where it is so already nothing is done.)", () -> {
            SeamPull x = ran("panel 4;seam on 1 20 clamp 1 clamp 1 free 1 free 1 free 2;");
            due("minutes", x.minutes(), 1);
            due("heat", x.cell(1, 0), 60);
            bendIs("clamp 1 on 1 5 clamp 1", 1, 2);
            bendIs("clamp 1 on 1 4 free 1 free 1", 1, 2);
            bendIs("on 1 5 free 1", 1, 5);
        });
        doc.test("Behind the last SEAM of a RUN all CELLS are freed, by numbers.", () -> {
            SeamPull x = ran("panel 4;seam clamp 0 clamp 3 on 0 5 on 3 7;seam on 0 5;seam;");
            // 5 and 40 by 10 in one spring, not two
            due("first", x.cell(0, 2), (5 + 4) / 2);
            due("last", x.cell(3, 2), 3);
            due("with no seam", ran("panel 4;").runs(), 0);
            // Not behind the one ahead of it: it is clamped yet.
            due("behind the last alone", ran("panel 4;seam clamp 1 on 1 5;seam on 1 5 free 1;").cell(1, 2), 4);
        });
    }

    // ---- runs

    private static void runs(Sentences doc) {
        doc.test("A RUN: all as at first, BENDS as SET", () -> {
            SeamPull x = of("panel 4;seam on 1 4 clamp 2 on 2 4;");
            due("once", x.runs(), x.runs());
            due("hold", x.cell(1, 1), 2);
            due("heat", x.cell(1, 0), 9);
            due("bend", x.cell(1, 2), 4);
            due("pull", x.cell(1, 3), 12 - 4);
            due("minutes", x.minutes(), 2);
            x.open(1, 40);
            x.runs();
            due("as set", x.cell(1, 2), 44);
            x.open(1, -40);
            x.runs();
            due("as set", x.cell(1, 2), -36);
        });
        doc.test("the SEAMS in an ORDER (told, or by numbers), each with its ACTS by theirs.", () -> {
            SeamPull x = of("panel 4;seam on 1 4 turned 1 10;seam flame 1 9;");
            x.runs();
            // 4, -8, then a flame at -4 with hold 4: 72 by 12
            due("by numbers", x.cell(1, 2), 4 - 8 + 6);
            x.sheet(0, 0, 2);
            items(x, 0, 0, 1, 0);
            x.run(0, 0);
            due("told", x.cell(1, 2), 9 + 4 - 8);
            sixInOrder();
        });
        doc.test("THE SHAPE: height 0 is 0, the slope is 0; for each CELL by numbers the slope becomes BEND of it more, "
            + "and the next height the one ahead and the slope: one height more than CELLS.", () -> {
            SeamPull x = of("panel 12;");
            x.open(0, 40);
            x.open(11, -40);
            for (int i = 0; i <= 11; i++) {
                due("height " + i, x.height(i), 40 * i);
            }
            due("the last", x.height(12), 40 * 11);
            due("none behind", x.height(13), BAD);
            due("none ahead", x.height(-1), BAD);
            SeamPull y = of("panel 4;");
            y.open(3, 7);
            due("height 3", y.height(3), 0);
            due("height 4", y.height(4), 7);
            due("height 5", y.height(5), BAD);
        });
        doc.test("OFF: how far a height h(i) is from the line between the first one and the last one: the greatest of the sizes of "
            + "n times h(i) less i times h(n), by n (n: how many CELLS).", TermsBounds::off);
        doc.test("GIVES: of a SEAM: how much OFF is by a RUN less what it is by a RUN of the same ORDER without its ACTS.", () -> {
            SeamPull x = of("panel 4;seam clamp 1;seam on 1 20;seam;");
            // 10: 30 by 4; 20: 60 by 4; 0
            due("what the clamp gives", x.gives(0), 7 - 15);
            due("what the step gives", x.gives(1), 7);
            due("an empty one", x.gives(2), 0);
            SeamPull y = of("panel 4;seam on 3 20;");
            y.open(3, -20);
            due("makes it less", y.gives(0), 0 - 15);
        });
    }

    /** Six steps at one cell, held more by each: every other order, or a seam twice, comes to another bend. */
    private static void sixInOrder() {
        SeamPull x = of("panel 4;seam on 1 1;seam on 1 5;seam on 1 3;seam on 1 7;seam on 1 2;seam on 1 9;");
        // 1, 40 by 10, 24 by 12, 56 by 14, 16 by 16, 72 by 18
        due("off", x.runs(), 12);
        due("bend", x.cell(1, 2), 1 + 4 + 2 + 4 + 1 + 4);
        x.sheet(0, 0, 6);
        items(x, 0, 0, 5, 4, 3, 2, 1, 0);
        x.run(0, 0);
        // 9, 16 by 10, 56 by 12, 24 by 14, 40 by 16, 8 by 18
        due("bend, the other way", x.cell(1, 2), 9 + 1 + 4 + 1 + 2);
        x.runs();
        due("by numbers again", x.cell(1, 2), 16);
    }

    private static void off() {
        SeamPull x = of("panel 4;");
        due("flat", x.runs(), 0);
        x.open(0, 40);
        due("straight", x.runs(), 0);
        x.open(0, 0);
        int[] ofLast = {0, 0, 1, 2, 3, 3};
        for (int b = 0; b <= 5; b++) {
            x.open(3, b);
            due("the last bent " + b, x.runs(), ofLast[b]);
            x.open(3, -b);
            due("the last bent " + -b, x.runs(), ofLast[b]);
        }
        SeamPull y = of("panel 12;");
        y.open(11, 40);
        due("of twelve", y.runs(), 36);
        y.open(6, -40);
        // heights 0 to 6 are 0, then -40 a cell: h(12) is -200; 12 times 0 less 6 times -200
        due("the greatest, in the midst", y.runs(), 100);
    }

    // ---- orders

    private static void orders(Sentences doc) {
        doc.test("AN ORDER FITS, if each 'before' is so in it.", () -> {
            due("none told", of("panel 4;seam;seam;seam;").orders(), 6);
            due("one told", of("panel 4;seam;seam;seam;before 2 0;").orders(), 3);
            due("two told", of("panel 4;seam;seam;seam;before 2 0;before 1 0;").orders(), 2);
            due("all told", of("panel 4;seam;seam;seam;before 2 1;before 1 0;").orders(), 1);
            due("one told twice", of("panel 4;seam;seam;seam;before 2 0;before 2 0;").orders(), 3);
        });
        doc.test("BEST: of all ORDERS that FIT that of least OFF, of several the first by SEAMS.", () -> {
            SeamPull x = of("panel 4;seam;seam;seam;");
            for (int i = 0; i < 3; i++) {
                due("by numbers", x.best(i), i);
            }
            x = of("panel 4;seam;seam;seam;before 2 0;");
            due("of those that fit", x.best(0) * 100 + x.best(1) * 10 + x.best(2), 120);
            x = of("panel 4;seam turned 1 10;seam on 1 4;seam;");
            // -10 and 3: 5; 4 and -8: 3
            due("the least", x.best(-1), 3);
            due("its first", x.best(0) * 100 + x.best(1) * 10 + x.best(2), 102);
            x = of("panel 4;seam turned 1 10;seam on 1 4;seam;before 0 1;");
            due("the least that fits", x.best(-1), 5);
            due("its first", x.best(0) * 100 + x.best(1) * 10 + x.best(2), 12);
            bestGoesOnAsARun();
        });
        doc.test("Where none FITS there is a RING.", () -> {
            String[] rings = {"panel 4;seam;seam;before 0 1;before 1 0;",
                "panel 4;seam;seam;seam;before 0 1;before 1 2;before 2 0;",
                SIX_SEAMS + "before 0 1;before 1 2;before 2 3;before 3 4;before 4 5;before 5 0;"};
            for (String ring : rings) {
                SeamPull x = of(ring);
                due("orders", x.orders(), 0);
                due("best", x.best(-1), NONE);
                due("its first", x.best(0), NONE);
                due("a run by numbers is made", x.runs(), 0);
            }
            due("no ring", of(SIX_SEAMS + "before 0 1;before 1 2;before 2 3;before 3 4;before 4 5;").orders(), 1);
        });
        doc.test("BEFOREHAND: CELL by CELL, by numbers: what it must be SET to (-40 to 40; the least in size, of two the one below 0) "
            + "so that by a RUN by numbers its BEND comes to 0, CELLS ahead of it SET to what is BEFOREHAND of them, "
            + "those behind as they are SET.", TermsBounds::beforehand);
    }

    /** What a seam leaves is there for the next one, and the last one's clamps are freed. */
    private static void bestGoesOnAsARun() {
        due("freed behind the last", of("panel 4;seam clamp 1 on 1 20;").best(-1), 7);
        due("a spring", of("panel 4;seam clamp 1 on 1 20;seam;").best(-1), 7);
        SeamPull x = of("panel 4;seam on 1 20;seam clamp 1;");
        due("a clamp", x.best(-1), 7);
        due("it is first", x.best(0), 1);
        // 20, 16 and, as it is hot, 6: 126 by 4; a minute later 13: 147 by 4
        due("heat", of("panel 4;seam on 1 20 on 1 20;seam on 1 20;before 0 1;").best(-1), 31);
        due("minutes", of("panel 4;seam on 1 20 on 1 20;seam wait 1;seam on 1 20;before 0 1;before 1 2;").best(-1), 36);
        // 4 and 32 by 10
        due("hold", of("panel 4;seam on 1 4;seam on 1 4;").best(-1), 21 / 4);
    }

    private static void beforehand() {
        due("nothing to do", of("panel 4;").beforehand(3), 0);
        // 20, 16 and, as it is hot, 96 by 12 by 2: 40; 120 by 12 by 2: 41
        due("-40", of("panel 4;seam on 0 20 on 0 20 on 0 12;").beforehand(0), -40);
        due("not -41", of("panel 4;seam on 0 20 on 0 20 on 0 15;").beforehand(0), NONE);
        due("40", of("panel 4;seam turned 0 20 turned 0 20 turned 0 12;").beforehand(0), 40);
        due("not 41", of("panel 4;seam turned 0 20 turned 0 20 turned 0 15;").beforehand(0), NONE);
        due("of two the one below 0", of("panel 4;seam flame 0 20;").beforehand(0), -20);
        // 3 and, with hold, 40 by 10 down from above 0: 1; up from below: -7
        due("the least in size", of("panel 4;seam on 0 3 flame 0 5;").beforehand(0), 1);
        due("as freed", of("panel 4;seam clamp 0 on 0 9;").beforehand(0), -4);
        SeamPull x = of("panel 4;seam on 0 7;seam turned 3 20 on 2 1;");
        for (int c = 0; c < 4; c++) {
            x.open(c, 40);
        }
        int[] due = {-7, 0, -1, 20};
        for (int c = 3; c >= 0; c--) {
            due("cell " + c, x.beforehand(c), due[c]);
        }
        SeamPull y = of("panel 4;seam on 1 4;seam turned 1 10;");
        y.sheet(0, 0, 2);
        items(y, 0, 0, 1, 0);
        y.run(0, 0);
        due("by numbers, however the latest run was", y.beforehand(1), 4);
    }

    // ---- spots

    private static SeamPull bent(int... bends) {
        SeamPull x = of("panel " + bends.length + ";");
        for (int c = 0; c < bends.length; c++) {
            x.open(c, bends[c]);
        }
        return x;
    }

    private static void spots(Sentences doc) {
        doc.test("SPOTS: a spot of p at a CELL: its BEND comes p nearer to 0 (to 0, if it is no farther), "
            + "those of its neighbours become 1 more.", () -> {
            due("farther", bent(9, 0, 0, 0).spots(7, 2), 1);
            due("farther below", bent(-9, 0, 0, 0).spots(7, 2), 1);
            due("one too far", bent(9, 0, 0, 0).spots(6, 2), NONE);
            due("one too far below, but for a neighbour's", bent(-10, 0, 0, 0).spots(7, 2), 3);
            due("too far below", bent(-11, 0, 0, 0).spots(7, 2), NONE);
            due("as far", bent(5, -1, 0, 0).spots(5, 0), 1);
            due("as far below", bent(-5, -1, 0, 0).spots(5, 0), 1);
            due("nearer", bent(5, -1, 0, 0).spots(20, 0), 1);
            due("nearer below", bent(-5, -1, 0, 0).spots(20, 0), 1);
            due("not so far", bent(5, -1, 0, 0).spots(4, 0), NONE);
            due("both neighbours", bent(-1, 5, -1, 0).spots(5, 0), 2);
            due("the last has one", bent(0, 0, -1, 5).spots(5, 0), 8);
            due("neighbours above", bent(0, 2, 9, 2).spots(9, 2), 14);
            due("neighbours above, just", bent(0, 2, 9, 2).spots(9, 3), 4);
        });
        doc.test("On BENDS as cell() tells them: a set of 0 to 3 CELLS, a spot at each, by numbers, "
            + "behind which all BENDS are t or less in size", () -> {
            due("none", bent(7, 0, 0, -7).spots(1, 7), 0);
            due("t", bent(0, 0, 7, 0).spots(1, 6), 4);
            due("one", bent(0, 0, -7, 0).spots(6, 1), 4);
            due("two", bent(9, 0, 0, 9).spots(9, 1), 9);
            due("three", bent(9, 0, 0, 9, 0, 0, 9).spots(9, 2), 1 + 8 + 64);
            due("four", bent(9, 0, 0, 9, 0, 0, 9, 0, 0, 9).spots(9, 2), NONE);
            // Only where 1 is ahead of 2 its bend is -1 as 2 makes it 1 more.
            due("by numbers", bent(-1, -6, 3, -1).spots(5, 0), 6);
            due("not the other way", bent(-1, 3, -6, -1).spots(5, 0), NONE);
            SeamPull x = of("panel 4;seam on 2 9;");
            due("ahead of a run", x.spots(9, 1), 0);
            x.runs();
            x.open(0, 40);
            due("behind it", x.spots(9, 1), 4);
        });
        doc.test(": the fewest; of several the least number (bits)", () -> {
            // 3 would do, too, and is less than 4.
            due("the fewest", bent(1, 0, -2, 0).spots(20, 1), 4);
            due("the least number", bent(0, 0, -2, 0).spots(1, 1), 2);
            due("bits of the last", bent(0, 0, 0, 0, 0, 0, 0, 0, 0, 0, 0, 9).spots(9, 1), 2048);
            due("none needed", bent(0, 0, 0, 0).spots(20, 0), 0);
        });
        doc.test("NONE: 3 are not enough.", () -> {
            due("enough", bent(9, 0, 9, 0, 9, 0, 0, 0).spots(9, 2), 1 + 4 + 16);
            due("not enough", bent(9, 0, 9, 0, 9, 0, 9, 0).spots(9, 2), NONE);
            due("as strong as it is", bent(40, 0, 0, 0).spots(20, 19), NONE);
            due("just", bent(40, 0, 0, 0).spots(20, 20), 1);
        });
    }

    // ---- cold

    private static void cold(Sentences doc) {
        doc.test("CRACK at a cold c (0 to 60): the first CELL whose PULL is above 300 less 4 c; NONE.", () -> {
            // 10 times 30
            SeamPull x = ran("panel 11;seam on 4 20 on 4 13;");
            due("pull", x.cell(4, 3), 300);
            due("at 0", x.crack(0), NONE);
            due("at 1", x.crack(1), 4);
            due("at 60", x.crack(60), 4);
            due("at -1", x.crack(-1), BAD);
            due("at 61", x.crack(61), BAD);
            // 7 times 43
            x = ran("panel 8;seam on 4 20 on 4 20 wait 10 on 4 11;");
            due("pull", x.cell(4, 3), 301);
            due("at 0", x.crack(0), 4);
            x = ran("panel 4;seam on 0 20;");
            due("pull", x.cell(0, 3), 60);
            due("at 60", x.crack(60), NONE);
            x = ran("panel 4;seam on 0 20 on 0 2;");
            due("at 60, one more", x.crack(60), 0);
            x = ran("panel 12;seam on 11 20 on 7 20 on 3 20;");
            due("the first by numbers", x.crack(60), 3);
            due("a pull below 0", ran("panel 12;seam turned 0 20 turned 0 20;").crack(60), NONE);
        });
        doc.test("WARM: the greatest c at which there is none; NONE.", () -> {
            due("60", ran("panel 4;seam on 0 20;").warm(), 60);
            due("59", ran("panel 4;seam on 0 20 on 0 2;").warm(), 59);
            due("0", ran("panel 11;seam on 4 20 on 4 13;").warm(), 0);
            due("none", ran("panel 8;seam on 4 20 on 4 20 wait 10 on 4 11;").warm(), NONE);
        });
    }

    // ---- wires

    private static void wires(Sentences doc) {
        doc.test("WIRES: heights of a panel, one more than CELLS, as THE SHAPE tells them: BEND of CELL i: the height i and 1 "
            + "less the height i, less the height i less the one ahead of it (of CELL 0: 0).", () -> {
            SeamPull x = of("panel 4;");
            x.sheet(0, 2, 5);
            items(x, 0, 0, 3, 10, 12, 7, 7);
            int[] bends = {7, -5, -7, 5};
            for (int c = 0; c < 4; c++) {
                due("cell " + c, x.wire(0, 0, c), bends[c]);
            }
            due("one more than cells", x.wire(0, 1, 0), PLACE);
            items(x, 0, 0, -9999, 9999, -9999, 9999, -9999);
            due("as far as can be", x.wire(0, 0, 0), 19998);
            due("as far as can be", x.wire(0, 0, 1), -39996);
            due("as far as can be", x.wire(0, 0, 2), 39996);
        });
        doc.test("STEEL of a wire beside a RUN: the k (1 to 9) so that each of its BENDS is k times that of the RUN by 4; "
            + "of several the least; NONE.", () -> {
            SeamPull x = ran("panel 4;seam on 1 4 turned 3 8;");
            x.sheet(0, 1, 5);
            for (int k = 0; k <= 10; k++) {
                items(x, 0, 0, 0, 0, k, 2 * k, 3 * k - 2 * k);
                due("k " + k, x.wire(0, 0, -1), k < 1 || k > 9 ? NONE : k);
            }
            items(x, 0, 0, 0, 0, 2, 4, 3);
            due("each of them", x.wire(0, 0, -1), NONE);
            items(x, 0, 0, 0, 1, 4, 7, 6);
            due("the first, too", x.wire(0, 0, -1), NONE);
            x = ran("panel 4;seam tack 1 1;");
            x.sheet(0, 1, 5);
            due("of 1 to 3 the least", x.wire(0, 0, -1), 1);
            items(x, 0, 0, 0, 0, 1, 2, 3);
            due("of 4 to 7 the least", x.wire(0, 0, -1), 4);
            items(x, 0, 0, 0, 0, 2, 4, 6);
            due("of 8 and 9 the least", x.wire(0, 0, -1), 8);
            items(x, 0, 0, 0, 0, 3, 6, 9);
            due("12 is none", x.wire(0, 0, -1), NONE);
        });
    }

    // ---- asks

    private static SeamPull kinds() {
        return of("panel 12;seam tack 1 11 on 2 12 back 3 13 skip 4 14 second 5 15 turned 6 16 flame 7 17 wait 1 clamp 0 free 0;");
    }

    private static void traceIs(SeamPull x, int... bodies) {
        for (int i = -1; i <= 16; i++) {
            due("trace " + i, x.trace(i), i >= 0 && i < bodies.length ? bodies[i] : NONE);
        }
    }

    private static void asks(Sentences doc) {
        doc.test("KINDS of STEPS: 0 STEP; 1 TACKED, a STEP; 2 FORWARD, a STEP: on; 3 BACK, a FORWARD one; 4 SKIPPED, a BACK one; "
            + "5 SECOND, a FORWARD one; 6 TURNED, a FORWARD one; 7 FLAME, a STEP.", () -> {
            String[] is = {"01", "02", "023", "0234", "025", "026", "07"};
            SeamPull x = kinds();
            for (int a = 0; a <= 6; a++) {
                due("kind of " + a, x.kind(a), a + 1);
                for (int kind = 0; kind <= 7; kind++) {
                    due(a + " as " + kind, x.as(a, kind), is[a].indexOf('0' + kind) >= 0 ? a + 1 : KIND);
                }
                due(a + " as -1", x.as(a, -1), BAD);
                due(a + " as 8", x.as(a, 8), BAD);
            }
        });
        doc.test("(wait, clamp, free are no STEPS.)", () -> {
            SeamPull x = kinds();
            for (int a = 7; a <= 9; a++) {
                due("kind of " + a, x.kind(a), BAD);
                due(a + " as a step", x.as(a, 0), BAD);
                due("ask of " + a, x.ask(a, 0), BAD);
                due("strength of " + a, x.act(a, 2), NONE);
            }
        });
        doc.test("ASKS of STEPS, by BODIES, each of which leaves its number in THE TRACE as it begins (the first 16)", () -> {
            SeamPull x = kinds();
            traceIs(x);
            x.ask(3, 0);
            traceIs(x, 13, 12, 11, 10, 20);
            x.ask(0, 0);
            traceIs(x, 10);
        });
        doc.test("0 SIZE: 10 lent to all STEPS: STRENGTH. 11 of FORWARD ones: what 10 gives, and MARK. 12 of BACK ones: what 11 gives, "
            + "less 1. 13 of SKIPPED ones: what 12 gives, twice. 14 of FLAMES: 0 less what 10 gives.", () -> {
            SeamPull x = kinds();
            int[] sizes = {11, 12 + 1, 13 + 2 - 1, (14 + 3 - 1) * 2, 15 + 4, 16 - 5, -17};
            int[][] bodies = {{10}, {11, 10, 20}, {12, 11, 10, 20}, {13, 12, 11, 10, 20}, {11, 10, 20}, {11, 10, 22, 20}, {14, 10}};
            for (int a = 0; a <= 6; a++) {
                due("size of " + a, x.ask(a, 0), sizes[a]);
                traceIs(x, bodies[a]);
            }
        });
        doc.test("1 MARK: 20 lent to all STEPS: the number of the ACT. 21 of TACKED ones: what 20 gives, and 100. "
            + "22 of TURNED ones: 0 less what 20 gives. 23 of FLAMES: what 20 gives, and SIZE.", () -> {
            SeamPull x = kinds();
            int[] marks = {100, 1, 2, 3, 4, -5, 6 - 17};
            int[][] bodies = {{21, 20}, {20}, {20}, {20}, {20}, {22, 20}, {23, 20, 14, 10}};
            for (int a = 0; a <= 6; a++) {
                due("mark of " + a, x.ask(a, 1), marks[a]);
                traceIs(x, bodies[a]);
            }
        });
        doc.test("(Of an ask the BODY told for the KIND begins, else that of the nearest KIND that it is, too, else the one that is lent; "
            + "SIZE, MARK within others are asked of the same STEP anew.)", () -> {
            SeamPull x = kinds();
            x.ask(4, 0);
            traceIs(x, 11, 10, 20);
            x.ask(5, 0);
            traceIs(x, 11, 10, 22, 20);
            x.ask(4, 1);
            traceIs(x, 20);
        });
    }
}

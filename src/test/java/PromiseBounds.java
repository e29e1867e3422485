/** The sentences of the promises, a test of its own for each; at the bound, and one beyond it on either side. */
final class PromiseBounds extends Bench {
    private static final String STEPS = "panel 9;seam;seam tack 0 1 on 1 2 back 2 3 skip 3 4;seam second 4 5 turned 5 6 flame 6 20;"
        + "seam wait 30 clamp 8 free 7;";
    private static final int[] FAR = {LOW, LOW + 1, -1000001, HIGH - 1, HIGH};

    static void all(Sentences doc) {
        newObject(doc);
        sheet(doc);
        set(doc);
        copy(doc);
        drop(doc);
        feed(doc);
        plan(doc);
        fault(doc);
        act(doc);
        open(doc);
        run(doc);
        runs(doc);
        cell(doc);
        height(doc);
        minutes(doc);
        gives(doc);
        best(doc);
        orders(doc);
        beforehand(doc);
        spots(doc);
        crack(doc);
        warm(doc);
        wire(doc);
        kind(doc);
        as(doc);
        ask(doc);
        trace(doc);
        count(doc);
        status(doc);
    }

    // ---- sheets

    private static void newObject(Sentences doc) {
        doc.ofPromise(1);
        doc.test("No PLAN.", () -> {
            SeamPull x = new SeamPull();
            x.sheet(0, 0, 40);
            int[] state = {x.run(0, 0), x.runs(), x.height(0), x.best(-1), x.orders(), x.spots(1, 0), x.warm(), x.wire(0, 0, 0)};
            for (int answer : state) {
                due("with no plan", answer, STATE);
            }
            int[] bad = {x.act(0, 0), x.open(0, 0), x.cell(0, 0), x.gives(0), x.beforehand(0), x.kind(0), x.as(0, 0), x.ask(0, 0)};
            for (int answer : bad) {
                due("of no plan", answer, BAD);
            }
            due("minutes", x.minutes(), 0);
            due("crack", x.crack(60), NONE);
            due("fault", x.fault(), 0);
            due("trace", x.trace(0), NONE);
            for (int what = 1; what <= 5; what++) {
                due("count " + what, x.count(what), 0);
            }
        });
    }

    private static void sheet(Sentences doc) {
        doc.ofPromise(2);
        doc.test("A SHEET of a LANE with n ITEMS, in place of what is there: n.", () -> {
            SeamPull x = of("panel 4;");
            due("forty", x.sheet(0, 2, 40), 40);
            due("an int", x.set(0, 39, HIGH), HIGH);
            due("fewer of another lane", x.sheet(0, 0, 5), 5);
            due("a byte", x.set(0, 4, 255), -1);
            due("no more of them", x.set(0, 5, 0), PLACE);
            due("as many anew", x.sheet(0, 0, 5), 5);
            due("0 anew", x.wire(0, 0, 3), 0);
            due("one sheet", x.count(0), 1);
            due("none", x.sheet(0, 1, 0), 0);
            due("it is there", x.count(0), 1);
            due("and had none", x.drop(0), 0);
            due("more again", x.sheet(0, 1, 40), 40);
            x.set(0, 0, 0);
            due("0 anew", x.wire(0, 0, 0), 0);
            due("0 anew", x.wire(0, 35, 3), 0);
        });
        doc.test("BAD: SHEET, LANE, n above 40; SIZE.", () -> {
            SeamPull x = new SeamPull();
            for (int s = -1; s <= 8; s++) {
                due("sheet " + s, x.sheet(s, 0, 0), s < 0 || s > 7 ? BAD : 0);
            }
            for (int lane = -1; lane <= 3; lane++) {
                due("lane " + lane, x.sheet(0, lane, 0), lane < 0 || lane > 2 ? BAD : 0);
            }
            due("40", x.sheet(0, 0, 40), 40);
            due("41", x.sheet(0, 0, 41), BAD);
            due("-1", x.sheet(0, 0, -1), SIZE);
            for (int far : FAR) {
                due("sheet " + far, x.sheet(far, 0, 1), BAD);
                due("lane " + far, x.sheet(0, far, 1), BAD);
                due("n " + far, x.sheet(0, 0, far), far < 0 ? SIZE : BAD);
            }
            due("sheet ahead of size", x.sheet(8, 0, -1), BAD);
            due("lane ahead of size", x.sheet(0, 3, -1), BAD);
            due("it is as it was", x.drop(0), 40);
        });
    }

    private static void set(Sentences doc) {
        doc.ofPromise(3);
        doc.test("ITEM i becomes v, its lowest bits, as many as the LANE has: what it is then.", () -> {
            SeamPull x = of("panel 4;");
            for (int lane = 0; lane <= 2; lane++) {
                x.sheet(lane, lane, 5);
            }
            int[] values = {-129, -128, -1, 0, 127, 128, 255, 256, -32769, -32768, 32767, 32768, 65535, 65536, LOW, HIGH};
            int[] bytes = {127, -128, -1, 0, 127, -128, -1, 0, -1, 0, -1, 0, -1, 0, 0, -1};
            int[] shorts = {-129, -128, -1, 0, 127, 128, 255, 256, 32767, -32768, 32767, -32768, -1, 0, 0, -1};
            for (int k = 0; k < values.length; k++) {
                due("byte " + values[k], x.set(0, 1, values[k]), bytes[k]);
                due("short " + values[k], x.set(1, 1, values[k]), shorts[k]);
                due("int " + values[k], x.set(2, 1, values[k]), values[k]);
            }
            x.set(0, 1, 300);
            due("it is that then", x.wire(0, 0, 0), 44);
            x.set(1, 1, 65536 + 9);
            due("it is that then", x.wire(1, 0, 0), 9);
        });
        doc.test("BAD: SHEET; NULL; PLACE.", () -> {
            SeamPull x = new SeamPull();
            x.sheet(0, 2, 40);
            x.sheet(1, 2, 0);
            due("-1", x.set(0, -1, 7), PLACE);
            due("0", x.set(0, 0, 7), 7);
            due("39", x.set(0, 39, 7), 7);
            due("40", x.set(0, 40, 7), PLACE);
            due("of none", x.set(1, 0, 7), PLACE);
            due("of a missing one", x.set(2, 0, 7), NULL);
            due("null ahead of place", x.set(2, -1, 7), NULL);
            due("sheet -1", x.set(-1, 0, 7), BAD);
            due("sheet 8", x.set(8, 0, 7), BAD);
            for (int far : FAR) {
                due("sheet " + far, x.set(far, far, 7), BAD);
                due("place " + far, x.set(0, far, 7), PLACE);
            }
            x.drop(0);
            due("dropped", x.set(0, 0, 7), NULL);
        });
    }

    /** Item i of a sheet of ints beside 0, read by a wire through sheet 7. */
    private static int item(SeamPull x, int sheet, int i) {
        x.sheet(7, 2, 5);
        x.copy(sheet, i, 7, 1, 1);
        return x.wire(7, 0, 0);
    }

    private static void itemsAre(SeamPull x, int sheet, int... values) {
        for (int i = 0; i < values.length; i++) {
            due("item " + i, item(x, sheet, i), values[i]);
        }
    }

    private static void copy(Sentences doc) {
        doc.ofPromise(4);
        doc.test("n ITEMS of a from i on come to b from j on, as they were ahead: n.", () -> {
            SeamPull x = of("panel 4;");
            x.sheet(0, 2, 5);
            x.sheet(1, 2, 3);
            items(x, 0, 0, 1, 2, 3, 4, 5);
            due("on over itself", x.copy(0, 0, 0, 1, 4), 4);
            itemsAre(x, 0, 1, 1, 2, 3, 4);
            due("back over itself", x.copy(0, 1, 0, 0, 4), 4);
            itemsAre(x, 0, 1, 2, 3, 4, 4);
            due("where it is", x.copy(0, 0, 0, 0, 5), 5);
            itemsAre(x, 0, 1, 2, 3, 4, 4);
            due("to another", x.copy(0, 2, 1, 0, 3), 3);
            itemsAre(x, 1, 3, 4, 4);
            itemsAre(x, 0, 1, 2, 3, 4, 4);
            due("one, the last to the last", x.copy(1, 2, 0, 4, 1), 1);
            due("none", x.copy(0, 0, 1, 0, 0), 0);
            due("none, behind the last ones", x.copy(0, 5, 1, 3, 0), 0);
            itemsAre(x, 1, 3, 4, 4);
            x.sheet(2, 2, 40);
            x.sheet(3, 2, 40);
            x.set(2, 39, 8);
            due("forty", x.copy(2, 0, 3, 0, 40), 40);
            due("the last of them", item(x, 3, 39), 8);
            x.sheet(4, 0, 0);
            due("none of none", x.copy(4, 0, 4, 0, 0), 0);
        });
        doc.test("BAD: SHEETS; NULL; STORE; PLACE (i, j, n below 0, or beyond an end).", () -> {
            SeamPull x = of("panel 4;");
            x.sheet(0, 2, 5);
            x.sheet(1, 2, 3);
            x.sheet(2, 1, 5);
            items(x, 1, 0, 7, 8, 9);
            due("i -1", x.copy(0, -1, 1, 0, 1), PLACE);
            due("j -1", x.copy(0, 0, 1, -1, 1), PLACE);
            due("n -1", x.copy(0, 1, 1, 1, -1), PLACE);
            due("one beyond the end of a", x.copy(0, 3, 1, 0, 3), PLACE);
            due("one beyond the end of b", x.copy(0, 0, 1, 1, 3), PLACE);
            due("i behind the last, none", x.copy(0, 6, 1, 0, 0), PLACE);
            due("j behind the last, none", x.copy(0, 0, 1, 4, 0), PLACE);
            due("one too many", x.copy(0, 0, 1, 0, 4), PLACE);
            for (int far : FAR) {
                due("i " + far, x.copy(0, far, 1, 0, 1), PLACE);
                due("j " + far, x.copy(0, 0, 1, far, 1), PLACE);
                due("n " + far, x.copy(0, 0, 1, 0, far), PLACE);
                due("i and n " + far, x.copy(0, far, 1, 0, far), PLACE);
                due("j and n " + far, x.copy(0, 1, 1, far, HIGH), PLACE);
                due("a " + far, x.copy(far, 0, 1, 0, 1), BAD);
                due("b " + far, x.copy(0, 0, far, 0, 1), BAD);
            }
            due("i and n wrap around", x.copy(0, HIGH, 1, 0, 2), PLACE);
            due("j and n wrap around", x.copy(0, 1, 1, HIGH, 2), PLACE);
            due("a -1", x.copy(-1, 0, 1, 0, 1), BAD);
            due("b 8, ahead of null", x.copy(3, 0, 8, 0, 1), BAD);
            due("a missing", x.copy(3, 0, 1, 0, 1), NULL);
            due("b missing", x.copy(1, 0, 3, 0, 1), NULL);
            due("null ahead of store and place", x.copy(2, -1, 3, 0, 1), NULL);
            due("store", x.copy(0, 0, 2, 0, 1), STORE);
            due("store ahead of place", x.copy(2, 9, 0, 9, 9), STORE);
            itemsAre(x, 1, 7, 8, 9);
        });
    }

    private static void drop(Sentences doc) {
        doc.ofPromise(5);
        doc.test("A SHEET is missing from now on: how many ITEMS it had. BAD; NULL.", () -> {
            SeamPull x = of("panel 4;");
            x.sheet(0, 0, 0);
            x.sheet(7, 2, 40);
            due("none", x.drop(0), 0);
            due("forty", x.drop(7), 40);
            due("how many are there", x.count(0), 0);
            due("again", x.drop(7), NULL);
            due("set", x.set(7, 0, 0), NULL);
            due("copy", x.copy(7, 0, 7, 0, 0), NULL);
            due("run", x.run(7, 0), NULL);
            due("wire", x.wire(7, 0, 0), NULL);
            due("-1", x.drop(-1), BAD);
            due("8", x.drop(8), BAD);
            for (int far : FAR) {
                due("sheet " + far, x.drop(far), BAD);
            }
            due("made anew", x.sheet(7, 1, 1), 1);
            due("one", x.drop(7), 1);
        });
    }

    // ---- plans

    private static void feed(Sentences doc) {
        doc.ofPromise(6);
        doc.test("The lowest n bytes of w (1 to 8), the highest of them first, come behind the tape: how many it has.", () -> {
            // "seam;  ?" behind "panel 4;", each time with all that is above it set.
            long w = 0x7365616d3b20203fL;
            for (int n = 1; n <= 8; n++) {
                SeamPull x = new SeamPull();
                feedText(x, "panel 4;");
                long lowest = w >> 8 * (8 - n);
                due("n " + n, x.feed(n == 8 ? lowest : lowest | -1L << 8 * n, n), 8 + n);
                due("on the tape", x.count(5), 8 + n);
                due("read", x.plan(), n < 4 ? -1000108 : n == 4 ? -1000112 : n == 8 ? -1000115 : 0);
            }
            SeamPull x = new SeamPull();
            due("a byte above 127", x.feed(-1, 1), 1);
            due("is none", x.plan(), -1000100);
            for (int k = 1; k <= 500; k++) {
                due("one by one", x.feed(' ', 1), k);
            }
        });
        doc.test("BAD: n; FULL: none comes.", () -> {
            SeamPull x = new SeamPull();
            due("0", x.feed(32, 0), BAD);
            due("-1", x.feed(32, -1), BAD);
            due("9", x.feed(32, 9), BAD);
            for (int far : FAR) {
                due("n " + far, x.feed(32, far), BAD);
            }
            due("none came", x.count(5), 0);
            feedText(x, "panel 4;" + times(485, " "));
            due("493", x.count(5), 493);
            due("eight", x.feed(-1, 8), FULL);
            due("none came", x.count(5), 493);
            due("seven", x.feed(0x20202020202020L, 7), 500);
            for (int n = 1; n <= 8; n++) {
                due("n " + n, x.feed(-1, n), FULL);
            }
            due("bad ahead of full", x.feed(-1, 9), BAD);
            due("none came", x.count(5), 500);
            due("read", x.plan(), 0);
            due("room again", x.feed(-1, 8), 8);
        });
    }

    private static void plan(Sentences doc) {
        doc.ofPromise(7);
        doc.test("The tape, empty then, is read: how many ACTS there are; no CELL is SET (0), nothing is done.", () -> {
            SeamPull x = new SeamPull();
            due("none", read(x, "panel 12;"), 0);
            due("empty then", x.count(5), 0);
            due("an empty tape", x.plan(), -1000100);
            due("forty", read(x, "panel 12;seam" + times(40, " on 3 20") + ";"), 40);
            for (int c = 0; c < 12; c++) {
                x.open(c, c + 1);
            }
            x.runs();
            due("one", read(x, "panel 12;seam on 3 20;"), 1);
            for (int c = 0; c < 12; c++) {
                for (int what = 0; what <= 3; what++) {
                    due("cell " + c + " " + what, x.cell(c, what), 0);
                }
                due("set to", x.open(c, 0), 0);
            }
            due("minutes", x.minutes(), 0);
            due("the last height", x.height(12), 0);
            due("crack", x.crack(60), NONE);
            due("beforehand of this one", x.beforehand(3), -20);
        });
        doc.test("-1000100 less the place of a FAULT: the PLAN stays.", () -> {
            SeamPull x = of("panel 4;seam on 1 4;seam turned 1 10;before 0 1;");
            x.sheet(0, 0, 2);
            x.set(0, 0, 1);
            x.open(2, 6);
            x.run(0, 0);
            x.open(3, -6);
            int[] beside = {x.cell(1, 2), x.cell(2, 2), x.cell(3, 2), x.minutes(), x.gives(0), x.best(-1), x.height(4), x.beforehand(1)};
            due("place 0", x.plan(), -1000100);
            due("place 6", read(x, "panel 3;"), -1000106);
            due("a late place", read(x, "panel 12;seam on 11 20;seam;seam;before 0 1;before 2 3;"), -1000153);
            due("the last place", read(x, times(500, "\n")), -1000600);
            due("empty then", x.count(5), 0);
            int[] behind = {x.cell(1, 2), x.cell(2, 2), x.cell(3, 2), x.minutes(), x.gives(0), x.best(-1), x.height(4), x.beforehand(1)};
            for (int k = 0; k < beside.length; k++) {
                due("answer " + k, behind[k], beside[k]);
            }
            int[] counts = {1, 4, 2, 2, 1, 0};
            for (int what = 0; what <= 5; what++) {
                due("count " + what, x.count(what), counts[what]);
            }
            due("it is set yet", x.open(2, 0), 6);
            due("it is set yet", x.open(3, 0), -6);
            due("no finding", x.status(), 0);
        });
    }

    private static void fault(Sentences doc) {
        doc.ofPromise(8);
        doc.test("The number of the latest FAULT; 0 before one.", () -> {
            SeamPull x = new SeamPull();
            due("before one", x.fault(), 0);
            read(x, "panel 4;");
            due("a good one", x.fault(), 0);
            read(x, "panel");
            due("1", x.fault(), 1);
            read(x, "panel 3;");
            due("2", x.fault(), 2);
            read(x, "panel 4;seam;seam;seam;seam;seam;seam;seam;");
            due("3", x.fault(), 3);
            read(x, "panel 4;");
            due("the latest, behind a good one", x.fault(), 3);
            x.plan();
            due("1", x.fault(), 1);
        });
    }

    private static void act(Sentences doc) {
        doc.ofPromise(9);
        doc.test("Of an ACT: 0 its kind (7 wait, 8 clamp, 9 free), 1 its CELL (MINUTES), 2 STRENGTH (NONE), 3 its SEAM. BAD.", () -> {
            SeamPull x = of(STEPS);
            int[] place = {0, 1, 2, 3, 4, 5, 6, 30, 8, 7}, seam = {1, 1, 1, 1, 2, 2, 2, 3, 3, 3};
            int[] strength = {1, 2, 3, 4, 5, 6, 20, NONE, NONE, NONE};
            for (int a = 0; a <= 9; a++) {
                due("what -1 of " + a, x.act(a, -1), BAD);
                due("kind of " + a, x.act(a, 0), a);
                due("place of " + a, x.act(a, 1), place[a]);
                due("strength of " + a, x.act(a, 2), strength[a]);
                due("seam of " + a, x.act(a, 3), seam[a]);
                due("what 4 of " + a, x.act(a, 4), BAD);
            }
            for (int what = -1; what <= 4; what++) {
                due("act -1", x.act(-1, what), BAD);
                due("act 10", x.act(10, what), BAD);
            }
            for (int far : FAR) {
                due("act " + far, x.act(far, 0), BAD);
                due("what " + far, x.act(0, far), BAD);
            }
            due("of no acts", of("panel 4;seam;").act(0, 0), BAD);
        });
    }

    private static void open(Sentences doc) {
        doc.ofPromise(10);
        doc.test("A CELL is SET to a BEND (-40 to 40): what it was. BAD.", () -> {
            SeamPull x = of("panel 12;");
            for (int c = 0; c <= 11; c++) {
                due("first", x.open(c, -40), 0);
                due("-41", x.open(c, -41), BAD);
                due("41", x.open(c, 41), BAD);
                due("it was", x.open(c, 40), -40);
                due("it is", x.cell(c, 2), 40);
                due("back", x.open(c, 0), 40);
            }
            due("cell -1", x.open(-1, 0), BAD);
            due("cell 12", x.open(12, 0), BAD);
            for (int far : FAR) {
                due("cell " + far, x.open(far, 0), BAD);
                due("bend " + far, x.open(0, far), BAD);
            }
            SeamPull y = of("panel 4;");
            due("cell 3", y.open(3, 1), 0);
            due("cell 4", y.open(4, 1), BAD);
            y.runs();
            due("behind a run", y.open(3, 2), 1);
            due("for the next one", y.cell(3, 2), 1);
            y.runs();
            due("it stands", y.cell(3, 2), 2);
        });
    }

    private static void run(Sentences doc) {
        doc.ofPromise(11);
        doc.test("A RUN in an ORDER: as many ITEMS of a SHEET from i on as there are SEAMS, each SEAM once: OFF. It stands then.", () -> {
            SeamPull x = of("panel 4;seam on 1 4;seam turned 1 10;");
            for (int lane = 0; lane <= 2; lane++) {
                x.sheet(lane, lane, 40);
                items(x, lane, 37, 1, 0, 1);
                // -10, then 32 by 10: -7; 4, then -80 by 10: -4
                due("1 0", x.run(lane, 37), 5);
                due("it stands", x.cell(1, 2), -7);
                due("0 1", x.run(lane, 38), 3);
                due("it stands", x.cell(1, 2), -4);
                due("minutes", x.minutes(), 2);
            }
            SeamPull y = of("panel 4;");
            y.sheet(0, 0, 0);
            due("of no seams", y.run(0, 0), 0);
            SeamPull z = of("panel 4;seam;seam;seam;seam;seam;seam on 3 20;");
            z.sheet(0, 0, 6);
            items(z, 0, 0, 5, 4, 3, 2, 1, 0);
            due("of six", z.run(0, 0), 15);
            due("of six, one too far", z.run(0, 1), PLACE);
            for (int k = 0; k < 6; k++) {
                for (int twice = 0; twice < 6; twice++) {
                    z.set(0, k, twice);
                    due("seam " + twice + " at " + k, z.run(0, 0), twice == 5 - k ? 15 : BAD);
                }
                z.set(0, k, 5 - k);
            }
        });
        doc.test("BAD: SHEET; STATE: no PLAN; NULL; PLACE; then BAD: an ITEM.", () -> {
            SeamPull x = new SeamPull();
            due("sheet -1", x.run(-1, 0), BAD);
            due("sheet 8", x.run(8, 0), BAD);
            due("no plan", x.run(0, -1), STATE);
            read(x, "panel 4;seam on 1 4;seam turned 1 10;");
            due("missing", x.run(0, -1), NULL);
            x.sheet(0, 2, 4);
            items(x, 0, 0, 1, 0, 1, 2);
            x.run(0, 0);
            due("place -1", x.run(0, -1), PLACE);
            due("place 2, no such seam", x.run(0, 2), BAD);
            due("place 3", x.run(0, 3), PLACE);
            due("place 4", x.run(0, 4), PLACE);
            for (int far : FAR) {
                due("sheet " + far, x.run(far, 0), BAD);
                due("place " + far, x.run(0, far), PLACE);
            }
            int[] none = {-1, 2, 1, LOW, HIGH, 256, 65536};
            for (int v : none) {
                items(x, 0, 0, 1, v);
                due("item " + v, x.run(0, 0), BAD);
                items(x, 0, 0, v, 1);
                due("item " + v, x.run(0, 0), BAD);
            }
            due("the latest run stands", x.cell(1, 2), -7);
            due("in its order", x.gives(1), 5 - 3);
        });
    }

    private static void runs(Sentences doc) {
        doc.ofPromise(12);
        doc.test("A RUN by numbers: OFF. It stands then. STATE: no PLAN.", () -> {
            SeamPull x = new SeamPull();
            due("no plan", x.runs(), STATE);
            read(x, "panel 3;");
            due("a fault is no plan", x.runs(), STATE);
            read(x, "panel 4;");
            due("no seam", x.runs(), 0);
            read(x, "panel 4;seam on 1 4;seam turned 1 10;");
            x.sheet(0, 0, 2);
            x.set(0, 0, 1);
            x.run(0, 0);
            due("by numbers", x.runs(), 3);
            due("it stands", x.cell(1, 2), -4);
            due("and its order", x.gives(0), 3 - 7);
            due("minutes", x.minutes(), 2);
        });
    }

    private static void cell(Sentences doc) {
        doc.ofPromise(13);
        doc.test("Of a CELL behind the latest RUN of this PLAN (ahead of one: as at first, BEND as it is SET): "
            + "0 HEAT, 1 HOLD, 2 BEND, 3 PULL. BAD.", () -> {
            SeamPull x = of("panel 4;seam on 3 20;");
            x.open(3, -40);
            int[] ahead = {0, 0, -40, 0}, behind = {60, 2, -20, 60};
            for (int what = 0; what <= 3; what++) {
                due("ahead " + what, x.cell(3, what), ahead[what]);
            }
            x.runs();
            x.open(3, 40);
            for (int what = 0; what <= 3; what++) {
                due("behind " + what, x.cell(3, what), behind[what]);
            }
            for (int c = -1; c <= 4; c++) {
                due("what -1 of " + c, x.cell(c, -1), BAD);
                due("what 4 of " + c, x.cell(c, 4), BAD);
                due("cell " + c, x.cell(c, 3), c < 0 || c > 3 ? BAD : c == 3 ? 60 : -20);
            }
            for (int far : FAR) {
                due("cell " + far, x.cell(far, 0), BAD);
                due("what " + far, x.cell(0, far), BAD);
            }
            read(x, "panel 12;seam on 3 20;");
            due("of this plan", x.cell(3, 2), 0);
            due("cell 11", x.cell(11, 2), 0);
            due("cell 12", x.cell(12, 2), BAD);
        });
    }

    private static void height(Sentences doc) {
        doc.ofPromise(14);
        doc.test("Height i (0 to how many CELLS) of THE SHAPE by BENDS as cell() tells them. STATE: no PLAN (ahead of BAD); BAD.", () -> {
            SeamPull x = new SeamPull();
            for (int i = -1; i <= 1; i++) {
                due("no plan", x.height(i), STATE);
            }
            due("no plan", x.height(HIGH), STATE);
            for (int cells = 4; cells <= 12; cells += 8) {
                x = of("panel " + cells + ";seam on 0 3;");
                x.open(0, 4);
                due("-1", x.height(-1), BAD);
                due("0", x.height(0), 0);
                due("the last, as set", x.height(cells), 4 * cells);
                due("behind it", x.height(cells + 1), BAD);
                x.runs();
                x.open(0, 0);
                due("0", x.height(0), 0);
                due("1", x.height(1), 7);
                due("the last, behind a run", x.height(cells), 7 * cells);
                for (int far : FAR) {
                    due("height " + far, x.height(far), BAD);
                }
            }
        });
    }

    private static void minutes(Sentences doc) {
        doc.ofPromise(15);
        doc.test("MINUTES of the latest RUN of this PLAN; 0 ahead of one.", () -> {
            SeamPull x = new SeamPull();
            due("no plan", x.minutes(), 0);
            read(x, "panel 4;seam on 1 4 wait 30;seam clamp 1 free 1;");
            due("ahead of one", x.minutes(), 0);
            x.runs();
            due("behind one", x.minutes(), 31);
            x.runs();
            due("not of both", x.minutes(), 31);
            x.plan();
            due("a fault leaves it", x.minutes(), 31);
            read(x, "panel 4;");
            due("of another plan", x.minutes(), 0);
            x.runs();
            due("of nothing", x.minutes(), 0);
        });
    }

    private static void gives(Sentences doc) {
        doc.ofPromise(16);
        doc.test("GIVES of a SEAM, by an ORDER as in the latest RUN (by numbers ahead of one). BAD.", () -> {
            SeamPull x = of("panel 4;seam on 1 4;seam turned 1 10;");
            // by numbers -4: 3; without 0 -10: 7; 1 0: -7: 5; without 1 4: 3
            due("ahead of one", x.gives(0), 3 - 7);
            x.sheet(0, 0, 2);
            x.set(0, 0, 1);
            x.run(0, 0);
            due("as in it", x.gives(0), 5 - 7);
            due("as in it", x.gives(1), 5 - 3);
            x.runs();
            due("by numbers", x.gives(0), 3 - 7);
            x.run(0, 0);
            read(x, "panel 4;seam on 1 4;seam turned 1 10;");
            due("ahead of one of this plan", x.gives(0), 3 - 7);
            due("seam -1", x.gives(-1), BAD);
            due("seam 1", x.gives(1), 0);
            due("seam 2", x.gives(2), BAD);
            for (int far : FAR) {
                due("seam " + far, x.gives(far), BAD);
            }
            due("minutes stay", x.minutes(), 0);
            due("of none", of("panel 4;").gives(0), BAD);
        });
    }

    // ---- orders, beforehand, spots

    private static void best(Sentences doc) {
        doc.ofPromise(17);
        doc.test("BEST: its OFF (i = -1; NONE: a RING); its i-th SEAM; NONE: not so many, a RING.", () -> {
            SeamPull x = of("panel 4;seam turned 1 10;seam on 1 4;");
            int[] due = {3, 1, 0, NONE, NONE};
            for (int i = -1; i <= 3; i++) {
                due("best " + i, x.best(i), due[i + 1]);
            }
            due("far", x.best(HIGH), NONE);
            due("nothing stands", x.cell(1, 2), 0);
            x.open(1, 7);
            due("as set now", x.best(-1), 0);
            due("as set now", x.best(0), 0);
            x = of("panel 4;seam;seam;before 0 1;before 1 0;");
            for (int i = -1; i <= 2; i++) {
                due("a ring " + i, x.best(i), NONE);
            }
            x = of("panel 4;");
            due("no seam", x.best(-1), 0);
            due("no first", x.best(0), NONE);
            x = of("panel 4;seam;seam;seam;seam;seam;seam;before 5 0;");
            due("the last of six", x.best(5), 0);
            due("the last but one", x.best(4), 5);
            due("none behind it", x.best(6), NONE);
        });
        doc.test("BAD: i below -1; STATE: no PLAN.", () -> {
            SeamPull x = new SeamPull();
            due("bad ahead of state", x.best(-2), BAD);
            due("far below", x.best(LOW), BAD);
            due("no plan", x.best(-1), STATE);
            due("no plan", x.best(0), STATE);
            due("no plan", x.best(HIGH), STATE);
            read(x, "panel 4;seam;");
            due("-2", x.best(-2), BAD);
            due("far below", x.best(LOW), BAD);
            due("-1", x.best(-1), 0);
            read(x, "panel 4;seam;seam;before 0 1;before 1 0;");
            due("bad ahead of a ring", x.best(-2), BAD);
        });
    }

    private static void orders(Sentences doc) {
        doc.ofPromise(18);
        doc.test("How many ORDERS FIT. STATE: no PLAN.", () -> {
            due("no plan", new SeamPull().orders(), STATE);
            int[] all = {1, 1, 2, 6, 24, 120, 720};
            for (int seams = 0; seams <= 6; seams++) {
                due("of " + seams, of("panel 4;" + times(seams, "seam;")).orders(), all[seams]);
            }
            due("one", of("panel 4;seam;seam;before 1 0;").orders(), 1);
            due("none", of("panel 4;seam;seam;before 1 0;before 0 1;").orders(), 0);
            due("none of six", of("panel 4;" + times(6, "seam;") + "before 4 5;before 5 4;").orders(), 0);
        });
    }

    private static void beforehand(Sentences doc) {
        doc.ofPromise(19);
        doc.test("BEFOREHAND of a CELL; NONE: there is none for it, or for one ahead. Nothing is SET by it. BAD.", () -> {
            // 20 and 16 and 5 are 41
            SeamPull x = of("panel 5;seam on 0 1 on 2 20 on 2 20 on 2 15 on 3 3;");
            x.open(0, 9);
            int[] due = {-1, 0, NONE, NONE, NONE};
            for (int c = 0; c <= 4; c++) {
                due("cell " + c, x.beforehand(c), due[c]);
            }
            due("cell -1", x.beforehand(-1), BAD);
            due("cell 5", x.beforehand(5), BAD);
            for (int far : FAR) {
                due("cell " + far, x.beforehand(far), BAD);
            }
            due("nothing is set", x.open(0, 9), 9);
            due("nothing is set", x.open(1, 0), 0);
            due("nothing stands", x.cell(0, 2), 9);
            due("no minutes", x.minutes(), 0);
            due("no plan", new SeamPull().beforehand(0), BAD);
            due("none for the first", of("panel 4;seam on 0 20 on 0 20 on 0 15;").beforehand(3), NONE);
            due("none for the last alone", of("panel 4;seam on 3 20 on 3 20 on 3 15;").beforehand(2), 0);
            due("none for the last", of("panel 4;seam on 3 20 on 3 20 on 3 15;").beforehand(3), NONE);
        });
    }

    private static void spots(Sentences doc) {
        doc.ofPromise(20);
        doc.test("SPOTS (bits) with p (1 to 20) and t (0 to 40); NONE. BAD; STATE: no PLAN.", () -> {
            SeamPull x = new SeamPull();
            due("no plan", x.spots(1, 0), STATE);
            due("no plan", x.spots(20, 40), STATE);
            int[][] wrong = {{0, 0}, {21, 0}, {1, -1}, {1, 41}, {0, 41}, {21, -1}, {-1, 0}};
            for (int[] pt : wrong) {
                due("bad ahead of state", x.spots(pt[0], pt[1]), BAD);
            }
            read(x, "panel 4;seam on 1 20 on 1 20 wait 5 on 1 8;");
            x.runs();
            // 20 and 16 and 5
            due("bend", x.cell(1, 2), 41);
            for (int[] pt : wrong) {
                due("bad", x.spots(pt[0], pt[1]), BAD);
            }
            due("p 1, t 40", x.spots(1, 40), 2);
            due("p 1, t 39", x.spots(1, 39), NONE);
            due("p 20, t 21", x.spots(20, 21), 2);
            due("p 20, t 20", x.spots(20, 20), NONE);
            due("p 20, t 0", x.spots(20, 0), NONE);
            for (int far : FAR) {
                due("p " + far, x.spots(far, 0), BAD);
                due("t " + far, x.spots(1, far), BAD);
            }
            due("nothing is done", x.cell(1, 2), 41);
        });
    }

    private static void crack(Sentences doc) {
        doc.ofPromise(21);
        doc.test("CRACK; NONE. BAD.", () -> {
            SeamPull x = new SeamPull();
            due("no plan", x.crack(0), NONE);
            due("no plan", x.crack(60), NONE);
            due("no plan", x.crack(-1), BAD);
            due("no plan", x.crack(61), BAD);
            read(x, "panel 11;seam on 10 20 on 10 13;");
            due("ahead of a run", x.crack(60), NONE);
            x.runs();
            due("-1", x.crack(-1), BAD);
            due("0", x.crack(0), NONE);
            due("1", x.crack(1), 10);
            due("60", x.crack(60), 10);
            due("61", x.crack(61), BAD);
            for (int far : FAR) {
                due("cold " + far, x.crack(far), BAD);
            }
            read(x, "panel 4;");
            due("of another plan", x.crack(60), NONE);
        });
    }

    private static void warm(Sentences doc) {
        doc.ofPromise(22);
        doc.test("WARM; NONE. STATE: no PLAN.", () -> {
            SeamPull x = new SeamPull();
            due("no plan", x.warm(), STATE);
            read(x, "panel 8;seam on 7 20 on 7 20 wait 10 on 7 11;");
            due("ahead of a run", x.warm(), 60);
            x.runs();
            due("none", x.warm(), NONE);
            x.plan();
            due("a fault leaves it", x.warm(), NONE);
            read(x, "panel 11;seam on 10 20 on 10 13;");
            x.runs();
            due("0", x.warm(), 0);
        });
    }

    private static void wire(Sentences doc) {
        doc.ofPromise(23);
        doc.test("A wire, as many ITEMS of a SHEET from i on as there are heights: BEND of a CELL (what 0 on), "
            + "STEEL beside the latest RUN (what = -1; NONE).", () -> {
            SeamPull x = of("panel 12;seam on 11 8;");
            x.runs();
            x.open(11, 40);
            for (int lane = 0; lane <= 2; lane++) {
                x.sheet(lane, lane, 40);
                items(x, lane, 27, 1, 1, 1, 1, 1, 1, 1, 1, 1, 1, 1, 1, 3);
                due("the first cell", x.wire(lane, 27, 0), 0);
                due("the last cell", x.wire(lane, 27, 11), 2);
                due("steel", x.wire(lane, 27, -1), 1);
                due("the last place", x.wire(lane, 26, 11), 0);
                due("none", x.wire(lane, 26, -1), NONE);
            }
        });
        doc.test("BAD: SHEET; STATE: no PLAN; BAD: what; NULL; PLACE; then BAD: an ITEM not -9999 to 9999.", () -> {
            SeamPull x = new SeamPull();
            due("sheet -1 ahead of state", x.wire(-1, 0, 0), BAD);
            due("sheet 8 ahead of state", x.wire(8, 0, 0), BAD);
            due("state ahead of what", x.wire(0, 0, -2), STATE);
            due("state ahead of null", x.wire(0, 0, 0), STATE);
            read(x, "panel 4;");
            due("what -2 ahead of null", x.wire(0, -1, -2), BAD);
            due("what 4 ahead of null", x.wire(0, -1, 4), BAD);
            due("null ahead of place", x.wire(0, -1, 3), NULL);
            x.sheet(0, 2, 7);
            for (int what = -1; what <= 3; what++) {
                due("place -1", x.wire(0, -1, what), PLACE);
                due("place 3", x.wire(0, 3, what), PLACE);
                for (int far : FAR) {
                    due("place " + far, x.wire(0, far, what), PLACE);
                }
            }
            for (int far : FAR) {
                due("sheet " + far, x.wire(far, 0, 0), BAD);
                due("what " + far, x.wire(0, 0, far), BAD);
            }
            for (int at = 1; at <= 5; at++) {
                int[] values = {-9999, 9999, -10000, 10000, LOW, HIGH};
                for (int v : values) {
                    boolean bad = v < -9999 || v > 9999;
                    x.set(0, at, v);
                    due("item " + v, x.wire(0, 1, 0), bad ? BAD : at == 1 ? -v : at == 2 ? v : 0);
                    due("steel with item " + v, x.wire(0, 1, -1), bad ? BAD : NONE);
                }
                x.set(0, at, 0);
            }
            x.set(0, 0, 10000);
            x.set(0, 6, -10000);
            due("beside it", x.wire(0, 1, 0), 0);
            due("ahead", x.wire(0, 0, 0), BAD);
            due("behind", x.wire(0, 2, 0), BAD);
        });
    }

    // ---- asked

    private static void kind(Sentences doc) {
        doc.ofPromise(24);
        doc.test("The KIND of an ACT, as it is told (1 to 7). BAD (no STEP, too).", () -> {
            SeamPull x = of(STEPS);
            for (int a = -1; a <= 10; a++) {
                due("act " + a, x.kind(a), a < 0 || a > 6 ? BAD : a + 1);
            }
            for (int far : FAR) {
                due("act " + far, x.kind(far), BAD);
            }
            due("of no acts", of("panel 4;seam;").kind(0), BAD);
        });
    }

    private static void as(Sentences doc) {
        doc.ofPromise(25);
        doc.test("An ACT is taken as a STEP of a KIND (0 .. 7): its CELL. BAD (no STEP, too); KIND: it is no such one.", () -> {
            SeamPull x = of(STEPS);
            for (int a = -1; a <= 10; a++) {
                boolean step = a >= 0 && a <= 6;
                due(a + " as -1", x.as(a, -1), BAD);
                due(a + " as 0", x.as(a, 0), step ? a : BAD);
                due(a + " as itself", x.as(a, a + 1), step ? a : BAD);
                due(a + " as 7", x.as(a, 7), a == 6 ? 6 : step ? KIND : BAD);
                due(a + " as 8", x.as(a, 8), BAD);
            }
            for (int far : FAR) {
                due("act " + far, x.as(far, 0), BAD);
                due("kind " + far, x.as(0, far), BAD);
            }
            due("kind 8 ahead of no such one", x.as(0, 8), BAD);
        });
    }

    private static void ask(Sentences doc) {
        doc.ofPromise(26);
        doc.test("An ASK (0, 1) of an ACT. BAD (no STEP, too). THE TRACE is empty ahead of it.", () -> {
            SeamPull x = of(STEPS);
            due("size", x.ask(3, 0), (4 + 3 - 1) * 2);
            due("five of them", x.trace(4), 20);
            due("what -1", x.ask(3, -1), BAD);
            due("what 2", x.ask(3, 2), BAD);
            due("act -1", x.ask(-1, 0), BAD);
            due("act 10", x.ask(10, 0), BAD);
            for (int a = 7; a <= 9; a++) {
                due("no step", x.ask(a, 0), BAD);
                due("no step", x.ask(a, 1), BAD);
            }
            for (int far : FAR) {
                due("act " + far, x.ask(far, 0), BAD);
                due("what " + far, x.ask(0, far), BAD);
            }
            due("what is refused leaves it", x.trace(0), 13);
            due("mark", x.ask(3, 1), 3);
            due("empty ahead of it", x.trace(0), 20);
            due("empty ahead of it", x.trace(1), NONE);
            due("of the last, asked often", x.ask(6, 1), 6 - 20);
            for (int k = 0; k < 20; k++) {
                x.ask(6, 1);
            }
            due("not filled by those ahead", x.trace(4), NONE);
            due("the latest", x.trace(3), 10);
        });
    }

    private static void trace(Sentences doc) {
        doc.ofPromise(27);
        doc.test("Number i of THE TRACE; NONE.", () -> {
            SeamPull x = of(STEPS);
            due("empty", x.trace(0), NONE);
            x.ask(3, 0);
            int[] bodies = {13, 12, 11, 10, 20};
            for (int i = -2; i <= 17; i++) {
                due("number " + i, x.trace(i), i >= 0 && i < 5 ? bodies[i] : NONE);
            }
            for (int far : FAR) {
                due("number " + far, x.trace(far), NONE);
            }
        });
    }

    private static void count(Sentences doc) {
        doc.ofPromise(28);
        doc.test("How many: 0 SHEETS, 1 CELLS, 2 SEAMS, 3 ACTS, 4 of 'before', 5 bytes on the tape. BAD.", () -> {
            SeamPull x = new SeamPull();
            for (int what = -1; what <= 6; what++) {
                due("at first " + what, x.count(what), what < 0 || what > 5 ? BAD : 0);
            }
            for (int s = 0; s <= 7; s++) {
                x.sheet(s, 0, 0);
            }
            read(x, "panel 12;" + times(5, "seam;") + "seam" + times(40, " on 1 1") + ";" + times(10, "before 0 1;"));
            feedText(x, times(500, " "));
            int[] most = {8, 12, 6, 40, 10, 500};
            for (int what = 0; what <= 5; what++) {
                due("at most " + what, x.count(what), most[what]);
            }
            due("-1", x.count(-1), BAD);
            due("6", x.count(6), BAD);
            for (int far : FAR) {
                due("what " + far, x.count(far), BAD);
            }
            x.drop(3);
            due("one fewer", x.count(0), 7);
        });
    }

    private static void status(Sentences doc) {
        doc.ofPromise(29);
        doc.test("Of the latest call with a SHEET, or as(), that was not BAD, STATE, FULL: the number of its FINDING; "
            + "0: it had none, or there was none.", () -> {
            SeamPull x = new SeamPull();
            due("there was none", x.status(), 0);
            x.run(0, 0);
            x.wire(0, 0, 0);
            due("state is none", x.status(), 0);
            x.drop(0);
            due("null", x.status(), 1);
            x.run(0, 0);
            x.wire(0, 0, 0);
            x.sheet(8, 0, 1);
            x.set(8, 0, 0);
            x.copy(0, 0, 8, 0, 0);
            x.drop(8);
            x.run(8, 0);
            x.wire(8, 0, 0);
            x.as(0, 0);
            due("bad and state leave it", x.status(), 1);
            feedText(x, times(500, " "));
            x.feed(0, 1);
            due("full leaves it", x.status(), 1);
            x.plan();
            read(x, "panel 4;seam on 0 1 wait 1;");
            x.act(0, 0); x.open(0, 0); x.runs(); x.cell(0, 0); x.height(0); x.minutes(); x.gives(0); x.best(0); x.orders();
            x.beforehand(0); x.spots(1, 0); x.crack(0); x.warm(); x.kind(0); x.ask(0, 0); x.trace(0); x.count(0); x.fault();
            due("a call without a sheet leaves it", x.status(), 1);
            statusOfEach(x);
        });
    }

    /** Each call that tells a status: behind a finding it has none, behind none one. */
    private static void statusOfEach(SeamPull x) {
        x.sheet(0, 0, 5);
        due("sheet", x.status(), 0);
        x.sheet(0, 0, -1);
        due("sheet of -1", x.status(), 4);
        x.set(0, 0, 0);
        due("set", x.status(), 0);
        x.set(0, 5, 0);
        due("set at 5", x.status(), 2);
        x.copy(0, 0, 0, 1, 1);
        due("copy", x.status(), 0);
        x.sheet(1, 1, 5);
        x.copy(0, 0, 1, 0, 0);
        due("copy of another lane", x.status(), 5);
        due("run", x.run(0, 0), 0);
        due("run", x.status(), 0);
        x.run(0, 5);
        due("run at 5", x.status(), 2);
        due("wire", x.wire(0, 0, 0), 0);
        due("wire", x.status(), 0);
        x.wire(2, 0, 0);
        due("wire of a missing one", x.status(), 1);
        x.set(0, 0, 9);
        x.wire(2, 0, 0);
        x.run(0, 0);
        due("a bad item leaves it", x.status(), 1);
        x.as(0, 2);
        due("as", x.status(), 0);
        x.as(0, 3);
        due("as what it is not", x.status(), 3);
        x.as(1, 0);
        x.as(0, 8);
        due("bad leaves it", x.status(), 3);
        x.wire(0, 0, -1);
        due("none is no finding", x.status(), 0);
        x.drop(2);
        due("drop of a missing one", x.status(), 1);
        x.drop(1);
        due("drop", x.status(), 0);
    }
}

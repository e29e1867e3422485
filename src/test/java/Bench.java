/** What the tests stand on: the numbers of the document, ways to lay out an object, and a tally of answers. */
abstract class Bench {
    static final int NONE = -1000000, BAD = -1000001, STATE = -1000002, FULL = -1000003;
    static final int NULL = -1000011, PLACE = -1000012, KIND = -1000013, SIZE = -1000014, STORE = -1000015;
    static final int LOW = Integer.MIN_VALUE, HIGH = Integer.MAX_VALUE;
    private static int wrong = 0, looked = 0;
    private static String topic = "";

    /** What is tested from here on, told with every answer that is not as due. */
    static void about(String what) {
        topic = what;
    }

    static void due(String what, int got, int want) {
        looked++;
        if (got != want) {
            wrong++;
            System.out.println(topic + ": " + what + " answered " + got + ", due is " + want);
        }
    }

    static void holds(String what, boolean so) {
        looked++;
        if (!so) {
            wrong++;
            System.out.println(topic + ": " + what);
        }
    }

    static int looked() {
        return looked;
    }

    static void end(String test) {
        System.out.println(test + ": " + looked + " answers, " + wrong + " not as due");
        if (wrong != 0) {
            System.exit(1);
        }
    }

    /** Eight bytes a call, as an object has only 512 calls. */
    static void feedText(SeamPull x, String text) {
        for (int i = 0; i < text.length(); i += 8) {
            int n = Math.min(8, text.length() - i);
            long w = 0;
            for (int k = 0; k < n; k++) {
                w = w << 8 | text.charAt(i + k);
            }
            x.feed(w, n);
        }
    }

    static int read(SeamPull x, String text) {
        feedText(x, text);
        return x.plan();
    }

    /** An object with a plan. */
    static SeamPull of(String text) {
        SeamPull x = new SeamPull();
        due("is read: " + text, read(x, text) >= 0 ? 0 : 1, 0);
        return x;
    }

    /** An object with a plan behind a run by numbers. */
    static SeamPull ran(String text) {
        SeamPull x = of(text);
        x.runs();
        return x;
    }

    static void items(SeamPull x, int sheet, int from, int... values) {
        for (int k = 0; k < values.length; k++) {
            x.set(sheet, from + k, values[k]);
        }
    }

    static void reads(String text, int acts) {
        SeamPull x = new SeamPull();
        due("plan of '" + text + "'", read(x, text), acts);
        due("no fault of '" + text + "'", x.fault(), 0);
    }

    static void faulty(String text, int place, int number) {
        SeamPull x = new SeamPull();
        due("plan of '" + text + "'", read(x, text), -1000100 - place);
        due("fault of '" + text + "'", x.fault(), number);
        due("no plan of '" + text + "'", x.runs(), STATE);
        due("tape behind '" + text + "'", x.count(5), 0);
    }

    /** The bend of a cell of four behind one seam with these acts. */
    static void bendIs(String acts, int cell, int bend) {
        due("bend behind '" + acts + "'", ran("panel 4;seam " + acts + ";").cell(cell, 2), bend);
    }

    static String times(int many, String text) {
        return text.repeat(many);
    }
}

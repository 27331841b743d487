/** What the tests share: answers held against those that are due, and worlds laid by texts. */
final class Check {
    private static int wrong = 0;
    private static int looked = 0;

    private Check() {
    }

    static void due(String call, long got, long want) {
        looked++;
        if (got != want) {
            wrong++;
            if (wrong <= 50) {
                System.out.println(call + " answered " + got + ", due is " + want);
            }
        }
    }

    /** An answer, and what asked() tells behind it. */
    static void due(WashLine w, String call, long got, long want, long asked) {
        due(call, got, want);
        due(call + ", then asked()", w.asked(), asked);
    }

    /** FINDING, of that kind, counted once more. */
    static void finds(WashLine w, String call, int before, int got, int kind) {
        due(call, got, WashLine.FINDING);
        due(call + ", then finding()", w.finding(), kind);
        due(call + ", then findings(" + kind + ")", w.findings(kind), before + 1);
    }

    /** A call that is made only when it is looked at. */
    interface Call {
        long answer();
    }

    /** All that an object tells of itself, what it found last from place 5 on. */
    private static long[] all(WashLine w) {
        long[] all = {w.digest(), w.asked(), w.tales(), w.upper(), w.lower(), w.finding(), 0, 0, 0, 0, 0};
        for (int f = 1; f <= 5; f++) {
            all[5 + f] = w.findings(f);
        }
        return all;
    }

    private static void stays(WashLine w, String call, long[] due) {
        String[] names = {"digest", "asked", "tales", "upper", "lower", "finding"};
        long[] got = all(w);
        for (int i = 0; i < due.length; i++) {
            due(call + ", then " + (i < 6 ? names[i] + "()" : "findings(" + (i - 5) + ")"), got[i], due[i]);
        }
    }

    /** Refused, or NONE: answered so, and nothing is told otherwise than before. */
    static void refused(WashLine w, String name, int answer, Call call) {
        long[] due = all(w);
        due(name, call.answer(), answer);
        stays(w, name, due);
    }

    /** FINDING: that one is told and counted once more, and nothing else is told otherwise than before. */
    static void finds(WashLine w, String name, int kind, Call call) {
        long[] due = all(w);
        due[5] = kind;
        due[5 + kind]++;
        due(name, call.answer(), WashLine.FINDING);
        stays(w, name, due);
    }

    static void holds(String what, boolean good) {
        due(what, good ? 1 : 0, 1);
    }

    static int wrong() {
        return wrong;
    }

    static void end() {
        System.out.println(looked + " looks, " + wrong + " wrong");
        if (wrong > 0) {
            System.exit(1);
        }
    }

    static void lay(WashLine w, int t, String text) {
        w.text(t, text.length());
        for (int i = 0; i < text.length(); i++) {
            w.put(t, i, text.charAt(i));
        }
    }

    /** A new object with a WORLD by TEXT 3, which is said to be good. */
    static WashLine world(String text) {
        WashLine w = new WashLine();
        lay(w, 3, text);
        int sorts = 0;
        for (int i = 0; i < text.length(); i++) {
            sorts += text.charAt(i) == 'k' ? 1 : 0;
        }
        due("world of \"" + text + "\"", w.world(3), sorts);
        return w;
    }

    static void row(WashLine w, int r, int... places) {
        w.row(r, places.length);
        for (int i = 0; i < places.length; i++) {
            w.lay(r, i, places[i]);
        }
    }

    static void holdsRow(WashLine w, String name, int r, int... places) {
        for (int i = 0; i < places.length; i++) {
            due(w, name + ", then at(" + r + ", " + i + ")", w.at(r, i), 1, places[i]);
        }
    }

    /** A MONDAY by ROW 5: things not told hung none. */
    static int monday(WashLine w, int weather, int doubt, int... things) {
        w.row(5, 8);
        for (int x = 0; x < things.length; x++) {
            w.lay(5, x, things[x]);
        }
        return w.monday(weather, 5, doubt);
    }
}

/** What the tests share: answers held against those that are due, and worlds laid by texts. */
final class Check {
    private static int wrong = 0;
    private static int looked = 0;

    private Check() {
    }

    static void due(String call, long got, long want) {
        looked++;
        if (got != want) {
            wrong++;
            if (wrong <= 50) {
                System.out.println(call + " answered " + got + ", due is " + want);
            }
        }
    }

    /** An answer, and what asked() tells behind it. */
    static void due(WashLine w, String call, long got, long want, long asked) {
        due(call, got, want);
        due(call + ", then asked()", w.asked(), asked);
    }

    /** FINDING, of that kind, counted once more. */
    static void finds(WashLine w, String call, int before, int got, int kind) {
        due(call, got, WashLine.FINDING);
        due(call + ", then finding()", w.finding(), kind);
        due(call + ", then findings(" + kind + ")", w.findings(kind), before + 1);
    }

    static void holds(String what, boolean good) {
        due(what, good ? 1 : 0, 1);
    }

    static void end() {
        System.out.println(looked + " looks, " + wrong + " wrong");
        if (wrong > 0) {
            System.exit(1);
        }
    }

    static void lay(WashLine w, int t, String text) {
        w.text(t, text.length());
        for (int i = 0; i < text.length(); i++) {
            w.put(t, i, text.charAt(i));
        }
    }

    /** A new object with a WORLD by TEXT 3, which is said to be good. */
    static WashLine world(String text) {
        WashLine w = new WashLine();
        lay(w, 3, text);
        int sorts = 0;
        for (int i = 0; i < text.length(); i++) {
            sorts += text.charAt(i) == 'k' ? 1 : 0;
        }
        due("world of \"" + text + "\"", w.world(3), sorts);
        return w;
    }

    /** A MONDAY by ROW 5: things not told hung none. */
    static int monday(WashLine w, int weather, int doubt, int... things) {
        w.row(5, 8);
        for (int x = 0; x < things.length; x++) {
            w.lay(5, x, things[x]);
        }
        return w.monday(weather, 5, doubt);
    }
}

/** MONDAYS, promises 16 to 19: their boundary cases, sentence by sentence. */
public final class EdgesOfMondaysTest {
    private static final int BAD = WashLine.BAD, FULL = WashLine.FULL, NONE = WashLine.NONE;
    private static final int NOTHING = 1, UNLIKE = 3, SIZE = 5;
    private static final int BIG = Integer.MAX_VALUE, SMALL = Integer.MIN_VALUE;

    public static void main(String[] args) {
        Edges.run(EdgesOfMondaysTest.class);
    }

    private static WashLine withMondays(int n) {
        WashLine w = Check.world("k-w0t0:1-1");
        w.row(0, 8);
        for (int m = 0; m < n; m++) {
            Check.due("MONDAY " + m, w.monday(0, 0, 0), m);
        }
        return w;
    }

    // ---- the terms

    @Says("MONDAYS 0, 1, .. (12 at most)")
    static void twelveMondays() {
        WashLine w = withMondays(11);
        Check.due("a twelfth", w.monday(1, 0, 9), 11);
        Check.due("count(1)", w.count(1), 12);
        Check.refused(w, "a thirteenth", FULL, () -> w.monday(0, 0, 0));
        Check.due(w, "told(11, 0)", w.told(11, 0), 1, 1);
    }

    @Says("have a WEATHER (0 dry, 1 RAIN)")
    static void twoWeathers() {
        WashLine w = Check.world("k-w0t0:1-1w0t1:1-1i0");
        Check.monday(w, 0, 0, 0, 1);
        Check.monday(w, 1, 0, 0, 1);
        Check.due("dry", w.lacks(0, 1), 1);
        Check.due("RAIN", w.lacks(1, 1), 0);
        w.row(0, 8);
        Check.refused(w, "monday(2, 0, 0)", BAD, () -> w.monday(2, 0, 0));
        Check.refused(w, "monday(-1, 0, 0)", BAD, () -> w.monday(-1, 0, 0));
    }

    @Says("how many hung of each THING (0 .. 40)")
    static void noneToFortyHung() {
        WashLine w = Check.world("k-");
        Check.row(w, 0, 0, 40, 0, 40, 0, 40, 0, 40);
        Check.due("monday(0, 0, 0)", w.monday(0, 0, 0), 0);
        for (int x = 0; x < 8; x++) {
            Check.due(w, "told(0, " + (x + 2) + ")", w.told(0, x + 2), 1, 40 * (x % 2));
        }
        Check.due("hung(0, 0, 40)", w.hung(0, 0, 40), 0);
        Check.due("hung(0, 7, 0)", w.hung(0, 7, 0), 40);
        Check.refused(w, "hung(0, 0, 41)", BAD, () -> w.hung(0, 0, 41));
        Check.refused(w, "hung(0, 0, -1)", BAD, () -> w.hung(0, 0, -1));
    }

    @Says("a DOUBT (0 .. 9)")
    static void doubtOfNoneToNine() {
        WashLine w = Check.world("k-w0t0:1-1");
        Check.monday(w, 0, 0, 10);
        Check.monday(w, 0, 9, 10);
        Check.monday(w, 0, 9, 11);
        Check.due("DOUBT 0", w.explains(0, 1), NONE);
        Check.due("DOUBT 9", w.explains(1, 1), 0);
        Check.due("DOUBT 9, one more hung", w.explains(2, 1), 2);
        Check.refused(w, "monday(0, 5, 10)", BAD, () -> w.monday(0, 5, 10));
        Check.refused(w, "monday(0, 5, -1)", BAD, () -> w.monday(0, 5, -1));
    }

    // ---- promise 16: monday

    @Says(promise = 16, value = "A MONDAY of a WEATHER with what hung by a ROW of 8, and a DOUBT: its number.")
    static void mondayIsNumbered() {
        WashLine w = Check.world("k-");
        Check.row(w, 5, 40, 1, 2, 3, 4, 5, 6, 0);
        Check.row(w, 0, 0, 0, 0, 0, 0, 0, 0, 40);
        Check.due("monday(1, 5, 9)", w.monday(1, 5, 9), 0);
        Check.due("monday(0, 0, 0)", w.monday(0, 0, 0), 1);
        int[][] due = {{1, 9, 40, 1, 2, 3, 4, 5, 6, 0}, {0, 0, 0, 0, 0, 0, 0, 0, 0, 40}};
        w.tear(5);
        for (int m = 0; m < 2; m++) {
            for (int what = 0; what < 10; what++) {
                Check.due(w, "told(" + m + ", " + what + ")", w.told(m, what), 1, due[m][what]);
            }
        }
        w.back(0);
        Check.due("the first anew", w.monday(0, 0, 0), 0);
    }

    @Says(promise = 16, value = "BAD")
    static void mondayBad() {
        WashLine w = Check.world("k-");
        w.row(0, 8);
        w.row(5, 8);
        for (int odd : new int[] {BIG, SMALL, -1}) {
            Check.refused(w, "WEATHER " + odd, BAD, () -> w.monday(odd, 0, 0));
            Check.refused(w, "ROW " + odd, BAD, () -> w.monday(0, odd, 0));
            Check.refused(w, "DOUBT " + odd, BAD, () -> w.monday(0, 0, odd));
        }
        Check.refused(w, "WEATHER 2", BAD, () -> w.monday(2, 0, 0));
        Check.refused(w, "ROW 6", BAD, () -> w.monday(0, 6, 0));
        Check.refused(w, "DOUBT 10", BAD, () -> w.monday(0, 0, 10));
        Check.due("count(1)", w.count(1), 0);
    }

    @Says(promise = 16, value = "NOTHING")
    static void mondayByMissing() {
        WashLine w = Check.world("k-");
        Check.finds(w, "monday(0, 0, 0)", NOTHING, () -> w.monday(0, 0, 0));
        w.row(0, 8);
        w.tear(0);
        Check.finds(w, "monday(0, 0, 0) by a torn one", NOTHING, () -> w.monday(0, 0, 0));
    }

    @Says(promise = 16, value = "SIZE: not 8")
    static void mondayByOtherSizes() {
        WashLine w = Check.world("k-");
        for (int n : new int[] {0, 1, 7, 9, 40}) {
            w.row(0, n);
            Check.finds(w, "by a ROW of " + n, SIZE, () -> w.monday(0, 0, 0));
        }
        w.row(0, 8);
        Check.due("by a ROW of 8", w.monday(0, 0, 0), 0);
    }

    @Says(promise = 16, value = "UNLIKE: a number")
    static void mondayByOtherNumbers() {
        WashLine w = Check.world("k-");
        w.row(0, 8);
        for (int v : new int[] {-1, 41, BIG, SMALL}) {
            for (int x = 0; x < 8; x += 7) {
                w.lay(0, x, v);
                Check.finds(w, v + " of THING " + x, UNLIKE, () -> w.monday(0, 0, 0));
                w.lay(0, x, 40);
            }
        }
        Check.due("40 of THINGS 0 and 7", w.monday(0, 0, 0), 0);
    }

    @Says(promise = 16, value = "FULL.")
    static void mondayFull() {
        WashLine w = withMondays(12);
        Check.refused(w, "a thirteenth", FULL, () -> w.monday(0, 0, 0));
        Check.refused(w, "a thirteenth, again", FULL, () -> w.monday(1, 0, 9));
        Check.due("plain() stays", w.plain(), 0);
        w.back(11);
        Check.due("the twelfth anew", w.monday(0, 0, 0), 11);
        Check.refused(w, "a thirteenth", FULL, () -> w.monday(0, 0, 0));
    }

    @Says(promise = 16, value = "(In this order.)")
    static void mondayInOrder() {
        WashLine w = withMondays(12);
        Check.refused(w, "BAD ahead of NOTHING", BAD, () -> w.monday(2, 1, 0));
        Check.finds(w, "NOTHING ahead of FULL", NOTHING, () -> w.monday(0, 1, 0));
        Check.row(w, 0, 41, 41);
        Check.refused(w, "BAD ahead of SIZE", BAD, () -> w.monday(0, 0, 10));
        Check.finds(w, "SIZE ahead of UNLIKE and FULL", SIZE, () -> w.monday(0, 0, 0));
        Check.row(w, 0, 0, 0, 0, 0, 0, 0, 0, 41);
        Check.refused(w, "BAD ahead of UNLIKE", BAD, () -> w.monday(-1, 0, 0));
        Check.finds(w, "UNLIKE ahead of FULL", UNLIKE, () -> w.monday(0, 0, 0));
        w.row(0, 8);
        Check.refused(w, "BAD ahead of FULL", BAD, () -> w.monday(0, 0, -1));
        Check.refused(w, "FULL last", FULL, () -> w.monday(0, 0, 0));
    }

    // ---- promise 17: hung

    @Says(promise = 17, value = "How many hung of a THING on a MONDAY are n (0 .. 40): what it was.")
    static void hungFirstAndLast() {
        WashLine w = withMondays(12);
        Check.due("hung(0, 0, 40)", w.hung(0, 0, 40), 0);
        Check.due("hung(0, 0, 0)", w.hung(0, 0, 0), 40);
        Check.due("hung(11, 7, 40)", w.hung(11, 7, 40), 0);
        Check.due("hung(11, 7, 40) again", w.hung(11, 7, 40), 40);
        Check.due(w, "told(11, 9)", w.told(11, 9), 1, 40);
        Check.due(w, "told(10, 9)", w.told(10, 9), 1, 0);
        Check.due(w, "told(11, 8)", w.told(11, 8), 1, 0);
    }

    @Says(promise = 17, value = "BAD.")
    static void hungBad() {
        WashLine w = withMondays(2);
        for (int m : new int[] {-1, 2, 11, 12, BIG, SMALL}) {
            Check.refused(w, "hung(" + m + ", 0, 0)", BAD, () -> w.hung(m, 0, 0));
        }
        for (int x : new int[] {-1, 8, BIG, SMALL}) {
            Check.refused(w, "hung(0, " + x + ", 1)", BAD, () -> w.hung(0, x, 1));
        }
        for (int n : new int[] {-1, 41, BIG, SMALL, NONE}) {
            Check.refused(w, "hung(0, 0, " + n + ")", BAD, () -> w.hung(0, 0, n));
        }
        WashLine none = Check.world("k-");
        Check.refused(none, "hung(0, 0, 0), no MONDAY", BAD, () -> none.hung(0, 0, 0));
    }

    // ---- promise 18: told

    @Says(promise = 18, value = "Of a MONDAY: 0 WEATHER, 1 DOUBT, 2 and more THING 0 and more, told by asked(): 1.")
    static void toldFirstAndLast() {
        WashLine w = Check.world("k-");
        Check.monday(w, 1, 9, 40, 0, 0, 0, 0, 0, 0, 39);
        for (int m = 1; m < 11; m++) {
            Check.monday(w, 0, 0);
        }
        Check.monday(w, 0, 8, 0, 0, 0, 0, 0, 0, 0, 38);
        int[][] due = {{1, 9, 40, 0, 0, 0, 0, 0, 0, 39}, {0, 8, 0, 0, 0, 0, 0, 0, 0, 38}};
        for (int what = 0; what < 10; what++) {
            Check.due(w, "told(0, " + what + ")", w.told(0, what), 1, due[0][what]);
            Check.due(w, "told(11, " + what + ")", w.told(11, what), 1, due[1][what]);
        }
    }

    @Says(promise = 18, value = "BAD.")
    static void toldBad() {
        WashLine w = withMondays(2);
        w.hung(1, 7, 7);
        w.told(1, 9);
        for (int m : new int[] {-1, 2, 11, BIG, SMALL}) {
            Check.refused(w, "told(" + m + ", 0)", BAD, () -> w.told(m, 0));
        }
        for (int what : new int[] {-1, 10, BIG, SMALL}) {
            Check.refused(w, "told(0, " + what + ")", BAD, () -> w.told(0, what));
        }
        w.back(1);
        Check.refused(w, "told(1, 0) of one that went", BAD, () -> w.told(1, 0));
    }

    // ---- promise 19: back

    @Says(promise = 19, value = "MONDAYS from number n on (0 to how many there are: none then) go: how many went.")
    static void backNoneAndAll() {
        WashLine w = withMondays(12);
        long before = w.digest();
        Check.due("back(12)", w.back(12), 0);
        Check.due("digest()", w.digest(), before);
        w.hung(10, 0, 1);
        Check.due("back(11)", w.back(11), 1);
        Check.due("count(1)", w.count(1), 11);
        Check.due(w, "told(10, 2) stays", w.told(10, 2), 1, 1);
        Check.due("back(11)", w.back(11), 0);
        Check.due("back(1)", w.back(1), 10);
        Check.due("back(0)", w.back(0), 1);
        Check.due("count(1)", w.count(1), 0);
        Check.due("back(0) of none", w.back(0), 0);
        Check.due("plain()", w.plain(), 0);
    }

    @Says(promise = 19, value = "BAD.")
    static void backBad() {
        WashLine w = withMondays(3);
        for (int n : new int[] {-1, 4, 12, NONE, BIG, SMALL}) {
            Check.refused(w, "back(" + n + ")", BAD, () -> w.back(n));
        }
        WashLine none = new WashLine();
        Check.refused(none, "back(1) of none", BAD, () -> none.back(1));
        Check.refused(none, "back(-1) of none", BAD, () -> none.back(-1));
    }
}

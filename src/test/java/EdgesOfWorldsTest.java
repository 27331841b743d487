/** WORLDS, promises 10 to 15: their boundary cases, sentence by sentence. */
public final class EdgesOfWorldsTest {
    private static final int BAD = WashLine.BAD, STATE = WashLine.STATE, NONE = WashLine.NONE;
    private static final int NOTHING = 1;
    private static final int BIG = Integer.MAX_VALUE, SMALL = Integer.MIN_VALUE;
    private static final int[] NO_TEXTS = {-1, 4, BIG, SMALL};

    public static void main(String[] args) {
        Edges.run(EdgesOfWorldsTest.class);
    }

    /** The TEXT has that FAULT (NONE: it is good), and world() says so. */
    private static void fault(String text, int due) {
        WashLine w = new WashLine();
        Check.lay(w, 1, text);
        Check.due("fault of \"" + text + "\"", w.fault(1), due);
        if (due == NONE) {
            int sorts = 0;
            for (int i = 0; i < text.length(); i++) {
                sorts += text.charAt(i) == 'k' ? 1 : 0;
            }
            Check.due("world of \"" + text + "\"", w.world(1), sorts);
        } else {
            Check.refused(w, "world of \"" + text + "\"", STATE, () -> w.world(1));
        }
    }

    private static String blanks(int n) {
        return " ".repeat(n);
    }

    // ---- the terms

    @Says("blanks (32) ahead, between, behind as many as wanted")
    static void blanksAnywhere() {
        fault("k-i0c00000k1w0t0:0-0i1", NONE);
        fault(" k- i0 c00000 k1 w0t0:0-0 i1 ", NONE);
        fault("   k-   i0   c00000   k1   w0t0:0-0   i1   ", NONE);
        fault(blanks(118) + "k-", NONE);
        fault("k-" + blanks(118), NONE);
        fault("k-" + blanks(116) + "k0", NONE);
        fault(blanks(120), NONE);
    }

    @Says("blanks (32)")
    static void noOtherBlanks() {
        for (char c : new char[] {0, 9, 10, 13, 31, 33, 95, 160, 255}) {
            fault(c + "k-", 0);
            fault("k-" + c + "k-", 2);
            fault("k- " + c, 3);
        }
    }

    @Says("none within items")
    static void noBlanksWithinItems() {
        for (String item : new String[] {"k-", "k5", "w0t1:2-3", "i4", "c56789"}) {
            for (int p = 1; p < item.length(); p++) {
                fault("k-" + item.substring(0, p) + " " + item.substring(p), 2 + p);
            }
        }
    }

    @Says("Items (none, too)")
    static void noItems() {
        fault("", NONE);
        fault(" ", NONE);
        WashLine w = Check.world("k-i3c99999");
        w.text(0, 0);
        Check.due("world of none", w.world(0), 0);
        Check.due("count(0)", w.count(0), 0);
        Check.due("indoors()", w.indoors(), 0);
        Check.due("price(0, NONE)", w.price(0, NONE), 3);
    }

    @Says("k (107) and a figure 0 .. 5, or - (45): a SORT of people")
    static void figuresOfSorts() {
        for (char c = '0'; c <= '5'; c++) {
            fault("k" + c, NONE);
        }
        fault("k-", NONE);
        for (char c : new char[] {'6', '7', '8', '9', '/', ':', ',', '.', 'k', 'a', 0, 255}) {
            fault("k" + c, 1);
        }
        fault("K0", 0);
        fault("j0", 0);
        fault("l0", 0);
    }

    @Says("(6 at most)")
    static void sixSorts() {
        fault("k5k4k3k2k1k0", NONE);
        WashLine w = Check.world("k5k4k3k2k1k0");
        for (int s = 0; s < 6; s++) {
            Check.due("grows(" + s + ")", w.grows(s), 5 - s);
        }
        fault("k5k4k3k2k1k0k-", 12);
    }

    @Says("(- into none; it may be told later, or never: then into none)")
    static void growsIntoLaterOrNone() {
        WashLine w = Check.world("k1k3k2k-k5");
        Check.due("told later, the next", w.grows(0), 1);
        Check.due("told later, the last", w.grows(1), 3);
        Check.due("itself", w.grows(2), 2);
        Check.due("into none", w.grows(3), NONE);
        Check.due("never told", w.grows(4), NONE);
        Check.due("never told, the first that is not", Check.world("k1").grows(0), NONE);
        Check.due("told by an earlier WORLD alone", growsBehindAnotherWorld(), NONE);
        Check.due("no STEP into a SORT that is not", Check.world("k1c55155").step(1, 0), 5);
    }

    private static int growsBehindAnotherWorld() {
        WashLine w = Check.world("k-k-");
        Check.lay(w, 0, "k1");
        w.world(0);
        return w.grows(0);
    }

    @Says("w (119) s t (116) x : (58) a - b")
    static void lettersOfWash() {
        fault("k-w0t0:1-2", NONE);
        fault("k-W0t0:1-2", 2);
        fault("k-v0t0:1-2", 2);
        fault("k-w0T0:1-2", 4);
        fault("k-w0s0:1-2", 4);
        fault("k-w0u0:1-2", 4);
        fault("k-w0t0;1-2", 6);
        fault("k-w0t0-1-2", 6);
        fault("k-w0t0:1:2", 8);
        fault("k-w0t0:1,2", 8);
        fault("k-w0t0:1.2", 8);
        fault("k-w0t0:12", 8);
    }

    @Says("SORT s (of those told ahead)")
    static void washOfSortsToldAhead() {
        fault("w0t0:1-2", 1);
        fault("w0t0:1-2k-", 1);
        fault("k-w1t0:1-2", 3);
        fault("k-w1t0:1-2k-", 3);
        fault("k-k-w1t0:1-2", NONE);
        fault("k-k-w2t0:1-2", 5);
        fault("k-k-k-k-k-k-w5t0:1-2", NONE);
        fault("k-k-k-k-k-k-w6t0:1-2", 13);
        fault("k-k-k-k-k-k-w/t0:1-2", 13);
        fault("k-w-t0:1-2", 3);
        WashLine w = Check.world("k-k-k-k-k-k-w5t0:1-2w0t0:3-4");
        Check.due(w, "wears(5, 0)", w.wears(5, 0), 1, 2);
        Check.due(w, "wears(0, 0)", w.wears(0, 0), 3, 4);
    }

    @Says("hangs a to b (0 .. 9, a no more than b)")
    static void leastAndMost() {
        int[][] good = {{0, 0}, {0, 9}, {9, 9}, {5, 5}, {4, 5}};
        for (int[] ab : good) {
            WashLine w = Check.world("k-w0t3:" + ab[0] + "-" + ab[1]);
            Check.due(w, "wears(0, 3)", w.wears(0, 3), ab[0], ab[1]);
        }
        fault("k-w0t3:/-5", 7);
        fault("k-w0t3::-5", 7);
        fault("k-w0t3:0-/", 9);
        fault("k-w0t3:9-:", 9);
        fault("k-w0t3:5-4", 9);
        fault("k-w0t3:9-8", 9);
        fault("k-w0t3:1-0", 9);
    }

    @Says("of THING x (0 .. 7)")
    static void thingsOfWash() {
        for (int x = 0; x < 8; x++) {
            WashLine w = Check.world("k-w0t" + x + ":2-3");
            Check.due(w, "wears(0, " + x + ")", w.wears(0, x), 2, 3);
        }
        fault("k-w0t8:2-3", 5);
        fault("k-w0t9:2-3", 5);
        fault("k-w0t/:2-3", 5);
        fault("k-w0t-:2-3", 5);
    }

    @Says("(the last told counts; not told: 0 to 0)")
    static void washToldTwiceOrNever() {
        WashLine w = Check.world("k-k-w0t0:5-9w1t0:7-8w0t0:1-2");
        Check.due(w, "told twice", w.wears(0, 0), 1, 2);
        Check.due(w, "told once", w.wears(1, 0), 7, 8);
        Check.due(w, "never told", w.wears(0, 7), 0, 0);
        Check.due(w, "never told", w.wears(1, 1), 0, 0);
        w = Check.world("k-w0t0:5-9w0t0:0-0");
        Check.due(w, "told again to none", w.wears(0, 0), 0, 0);
    }

    @Says("i (105) x: THING x dries indoors when it RAINS")
    static void thingsIndoors() {
        for (int x = 0; x < 8; x++) {
            Check.due("indoors() of i" + x, Check.world("i" + x).indoors(), 1 << x);
        }
        Check.due("told twice", Check.world("i3i3").indoors(), 8);
        fault("i8", 1);
        fault("i9", 1);
        fault("i/", 1);
        fault("i-", 1);
        fault("I0", 0);
        fault("h0", 0);
        fault("j0", 0);
    }

    @Says("c (99) and five figures: PRICES of COME, GONE, GROWN, ILL, GUEST")
    static void fivePrices() {
        fault("c00000", NONE);
        fault("c99999", NONE);
        for (int p = 1; p <= 5; p++) {
            for (char c : new char[] {'/', ':', '-', 'c', 0, 255}) {
                fault("c11111".substring(0, p) + c + "c11111".substring(p + 1), p);
            }
        }
        fault("C11111", 0);
        fault("b11111", 0);
        fault("d11111", 0);
        WashLine w = Check.world("c05938");
        int[] due = {0, 5, 9, 3, 8};
        for (int which = 0; which < 5; which++) {
            Check.due("price(" + which + ", NONE)", w.price(which, NONE), due[which]);
        }
    }

    @Says("(the last told counts; 3, 3, 1, 2, 2, if not told)")
    static void pricesToldTwiceOrNever() {
        WashLine w = Check.world("c99999c01234");
        int[] untold = {3, 3, 1, 2, 2};
        for (int which = 0; which < 5; which++) {
            Check.due("told twice, price(" + which + ", NONE)", w.price(which, NONE), which);
            w.price(which, 7);
        }
        Check.lay(w, 0, "k-");
        w.world(0);
        for (int which = 0; which < 5; which++) {
            Check.due("not told, price(" + which + ", NONE)", w.price(which, NONE), untold[which]);
        }
    }

    @Says("All but c's are one figure each, too.")
    static void oneFigureEach() {
        fault("k00", 2);
        fault("k-w00t0:1-2", 4);
        fault("k-w0t00:1-2", 6);
        fault("k-w0t0:00-2", 8);
        fault("k-w0t0:1-22", 10);
        fault("i00", 2);
        fault("c111111", 6);
    }

    @Says("A FAULT is the first place at which it can't go on so")
    static void firstFault() {
        fault("x", 0);
        fault("k-x", 2);
        fault("k6k7", 1);
        fault("k-i9c", 3);
        fault(blanks(119) + "x", 119);
        for (int c = 0; c < 256; c++) {
            // Blanks are good; the letters of items are cut off by the end.
            int due = c == 32 ? NONE : c == 'k' || c == 'w' || c == 'i' || c == 'c' ? 3 : 2;
            fault("i0" + (char) c, due);
        }
    }

    @Says("a b below a, a figure that is none such: its place")
    static void faultAtFigure() {
        for (int a = 1; a <= 9; a++) {
            fault("k-w0t0:" + a + "-" + (a - 1), 9);
            fault("k-w0t0:" + a + "-0", 9);
        }
        fault("k-kx", 3);
        fault("k-wxt0:1-2", 3);
        fault("k-w0tx:1-2", 5);
        fault("k-w0t0:x-2", 7);
        fault("k-wt0:1-2", 3);
        fault("k-w0t:1-2", 5);
        fault("k-w0t0:-2", 7);
        fault("k-w0t0:1-x", 9);
        fault("k-ix", 3);
        fault("c1111x", 5);
    }

    @Says("a seventh k: its letter")
    static void faultAtSeventhSort() {
        fault("k-k-k-k-k-k-k", 12);
        fault("k-k-k-k-k-k-k-", 12);
        fault("k-k-k-k-k-k-kx", 12);
        fault("k-k-k-k-k-k- i0 k0", 16);
    }

    @Says("the TEXT's size, if its end comes too early")
    static void faultAtEnd() {
        for (String item : new String[] {"k5", "w0t1:2-3", "i4", "c56789"}) {
            for (int n = 1; n < item.length(); n++) {
                fault("k-" + item.substring(0, n), 2 + n);
                fault(blanks(118 - n) + "k-" + item.substring(0, n), 120);
            }
            fault("k-" + item, NONE);
        }
    }

    @Says("At first there is no SORT.")
    static void noSortAtFirst() {
        WashLine w = new WashLine();
        Check.due("count(0)", w.count(0), 0);
        Check.refused(w, "grows(0)", BAD, () -> w.grows(0));
        Check.refused(w, "wears(0, 0)", BAD, () -> w.wears(0, 0));
        Check.refused(w, "hangs(1, 0, 0)", BAD, () -> w.hangs(1, 0, 0));
        Check.due("hangs(0, 0, 0), nobody", w.hangs(0, 0, 0), 0);
        Check.refused(w, "happen(0, 1, 0, 0)", BAD, () -> w.happen(0, 1, 0, 0));
    }

    // ---- promise 10: fault

    @Says(promise = 10, value = "A FAULT of a TEXT")
    static void faultOfEachText() {
        WashLine w = Check.world("k-k-");
        for (int t = 0; t < 4; t++) {
            Check.lay(w, t, "    x".substring(4 - t));
        }
        long before = w.digest();
        for (int t = 0; t < 4; t++) {
            Check.due("fault(" + t + ")", w.fault(t), t);
        }
        Check.due("digest() stays", w.digest(), before);
        w.text(0, 120);
        w.put(0, 119, 'k');
        Check.due("fault(0) behind the last place", w.fault(0), 120);
    }

    @Says(promise = 10, value = "NONE: there is none.")
    static void noFault() {
        WashLine w = Check.world("k-");
        w.text(0, 0);
        w.text(1, 120);
        Check.lay(w, 2, "k0w0t0:0-0");
        Check.refused(w, "fault(0) of an empty one", NONE, () -> w.fault(0));
        Check.refused(w, "fault(1) of blanks", NONE, () -> w.fault(1));
        Check.refused(w, "fault(2)", NONE, () -> w.fault(2));
    }

    @Says(promise = 10, value = "BAD")
    static void faultBad() {
        WashLine w = new WashLine();
        w.text(0, 1);
        w.text(3, 1);
        for (int t : NO_TEXTS) {
            Check.refused(w, "fault(" + t + ")", BAD, () -> w.fault(t));
        }
    }

    @Says(promise = 10, value = "NOTHING.")
    static void faultOfMissing() {
        WashLine w = new WashLine();
        w.text(0, 1);
        for (int t = 1; t < 4; t++) {
            int text = t;
            Check.finds(w, "fault(" + t + ")", NOTHING, () -> w.fault(text));
        }
    }

    // ---- promise 11: world

    @Says(promise = 11, value = "A WORLD by a TEXT (anew; MONDAYS, HAPPENINGS go)")
    static void worldAnew() {
        WashLine w = Check.world("k1k-w0t0:1-2i3c99999");
        for (int m = 0; m < 12; m++) {
            Check.monday(w, 0, 0, 1);
        }
        for (int e = 0; e < 16; e++) {
            w.happen(0, 5 + e % 2, 0, 1);
        }
        w.plain();
        Check.due("GROWN", w.step(1, 10), 9);
        Check.lay(w, 0, "k-w0t1:1-1");
        Check.due("world(0)", w.world(0), 1);
        Check.due("MONDAYS", w.count(1), 0);
        Check.due("HAPPENINGS", w.count(2), 0);
        Check.due("COMES", w.count(3), 0);
        Check.due("ROWS stay", w.count(4), 1);
        Check.due("TEXTS stay", w.count(5), 2);
        Check.due("grows(0)", w.grows(0), NONE);
        Check.due(w, "wears(0, 0)", w.wears(0, 0), 0, 0);
        Check.due(w, "wears(0, 1)", w.wears(0, 1), 1, 1);
        Check.due("indoors()", w.indoors(), 0);
        Check.due("plain()", w.plain(), 0);
        Check.due("household(11)", w.household(11), 0);
        Check.due("judge()", w.judge(), NONE);
        Check.due("the first MONDAY anew", Check.monday(w, 0, 0, 0, 1), 0);
        Check.due(w, "judge(), no GUEST any more", w.judge(), 0, 1);
        Check.due("the first HAPPENING anew", w.happen(0, 0, 0, 0), 0);
        Check.due(w, "judge(), nothing HANDED any more", w.judge(), 0, 1);
        Check.due("plain()", w.plain(), 2);
        Check.lay(w, 0, "k-k-");
        w.world(0);
        Check.due("GROWN no more", w.step(1, 10), 6);
    }

    @Says(promise = 11, value = "how many SORTS.")
    static void howManySorts() {
        WashLine w = new WashLine();
        for (int n = 0; n <= 6; n++) {
            Check.lay(w, 2, "k-".repeat(n));
            Check.due("world of " + n, w.world(2), n);
            Check.due("count(0)", w.count(0), n);
        }
        Check.lay(w, 2, "");
        Check.due("world of none, anew", w.world(2), 0);
    }

    @Says(promise = 11, value = "BAD")
    static void worldBad() {
        WashLine w = Check.world("k-");
        for (int t : NO_TEXTS) {
            Check.refused(w, "world(" + t + ")", BAD, () -> w.world(t));
        }
    }

    @Says(promise = 11, value = "NOTHING")
    static void worldOfMissing() {
        WashLine w = Check.world("k-");
        Check.monday(w, 0, 0);
        for (int t = 0; t < 3; t++) {
            int text = t;
            Check.finds(w, "world(" + t + ")", NOTHING, () -> w.world(text));
        }
        Check.due("count(0)", w.count(0), 1);
    }

    @Says(promise = 11, value = "STATE: a FAULT.")
    static void worldOfFault() {
        WashLine w = Check.world("k1k-w0t0:1-2i3c98765");
        Check.monday(w, 0, 0, 1);
        w.happen(0, 1, 0, 0);
        // All but the last sign is good, and would change everything.
        Check.lay(w, 0, "k0k0k0w0t0:3-4i4c00000k");
        Check.refused(w, "world(0)", STATE, () -> w.world(0));
        Check.due(w, "wears(0, 0)", w.wears(0, 0), 1, 2);
        Check.due("step(0, 1)", w.step(0, 1), 9);
        Check.due("plain()", w.plain(), 5);
        Check.due("finding()", w.finding(), 0);
    }

    @Says(promise = 11, value = "(STATE behind NOTHING.)")
    static void worldStateBehindNothing() {
        WashLine w = new WashLine();
        Check.refused(w, "world(4), BAD ahead of NOTHING", BAD, () -> w.world(4));
        Check.finds(w, "world(0), a missing one", NOTHING, () -> w.world(0));
        Check.lay(w, 0, "k");
        Check.refused(w, "world(0), a FAULT", STATE, () -> w.world(0));
        Check.due("finding() stays", w.finding(), NOTHING);
    }

    // ---- promise 12: wears

    @Says(promise = 12, value = "What a SORT hangs of a THING (0 .. 7) at least; at most by asked().")
    static void wearsFirstAndLast() {
        WashLine w = Check.world("k-k-k-k-k-k-w0t0:0-9w0t7:1-1w5t0:9-9w5t7:2-8");
        Check.due(w, "wears(0, 0)", w.wears(0, 0), 0, 9);
        Check.due(w, "wears(0, 7)", w.wears(0, 7), 1, 1);
        Check.due(w, "wears(5, 0)", w.wears(5, 0), 9, 9);
        Check.due(w, "wears(5, 7)", w.wears(5, 7), 2, 8);
        Check.due(w, "wears(4, 7)", w.wears(4, 7), 0, 0);
    }

    @Says(promise = 12, value = "BAD.")
    static void wearsBad() {
        WashLine w = Check.world("k-k-w0t0:1-2w1t7:3-4");
        w.wears(1, 7);
        for (int s : new int[] {-1, 2, 5, 6, BIG, SMALL}) {
            Check.refused(w, "wears(" + s + ", 0)", BAD, () -> w.wears(s, 0));
        }
        for (int x : new int[] {-1, 8, BIG, SMALL}) {
            Check.refused(w, "wears(0, " + x + ")", BAD, () -> w.wears(0, x));
        }
    }

    // ---- promise 13: grows

    @Says(promise = 13, value = "Into which SORT one grows (NONE).")
    static void growsFirstAndLast() {
        WashLine w = Check.world("k5k-k2k5k0k0");
        int[] due = {5, NONE, 2, 5, 0, 0};
        for (int s = 0; s < 6; s++) {
            Check.due("grows(" + s + ")", w.grows(s), due[s]);
        }
        Check.due("asked() stays", w.asked(), 0);
    }

    @Says(promise = 13, value = "BAD.")
    static void growsBad() {
        WashLine w = Check.world("k0k0");
        for (int s : new int[] {-1, 2, 5, 6, BIG, SMALL}) {
            Check.refused(w, "grows(" + s + ")", BAD, () -> w.grows(s));
        }
    }

    // ---- promise 14: indoors

    @Says(promise = 14, value = "THINGS that dry indoors when it RAINS (bits).")
    static void indoorsNoneAndAll() {
        Check.due("none", Check.world("k-").indoors(), 0);
        Check.due("all", Check.world("i7i6i5i4i3i2i1i0").indoors(), 255);
        Check.due("the first and the last", Check.world("i7i0").indoors(), 129);
        Check.due("of a new object", new WashLine().indoors(), 0);
    }

    // ---- promise 15: price

    @Says(promise = 15, value = "A PRICE (0 .. 4: COME, GONE, GROWN, ILL, GUEST) is v")
    static void eachPriceCounts() {
        WashLine w = Check.world("k1k-w0t0:1-1");
        Check.monday(w, 0, 0, 1);
        w.price(0, 9);
        Check.due("COME", w.step(0, 1), 9);
        w.price(1, 8);
        Check.due("GONE", w.step(1, 0), 8);
        w.price(2, 7);
        Check.due("GROWN", w.step(1, 10), 7);
        w.price(3, 6);
        Check.due("ILL", w.explains(0, 2), 6);
        w.price(4, 5);
        Check.due("GUEST", w.explains(0, 0), 5);
        for (int which = 0; which < 5; which++) {
            Check.due("price(" + which + ", 0)", w.price(which, 0), 9 - which);
        }
        Check.due("COME for nothing", w.step(0, 1), 0);
        Check.due("GONE for nothing", w.step(1, 0), 0);
        Check.due("GROWN for nothing", w.step(1, 10), 0);
        Check.due("ILL for nothing", w.explains(0, 2), 0);
        Check.due("GUEST for nothing", w.explains(0, 0), 0);
    }

    @Says(promise = 15, value = "(0 .. 9; NONE: it stays): what it was.")
    static void priceStaysOrChanges() {
        WashLine w = Check.world("k-c12345");
        for (int which = 0; which < 5; which++) {
            Check.due("price(" + which + ", NONE)", w.price(which, NONE), which + 1);
            Check.due("price(" + which + ", 0)", w.price(which, 0), which + 1);
            Check.due("price(" + which + ", 9)", w.price(which, 9), 0);
            Check.due("price(" + which + ", NONE)", w.price(which, NONE), 9);
            Check.due("price(" + which + ", NONE) again", w.price(which, NONE), 9);
        }
        Check.due("asked() stays", w.asked(), 0);
    }

    @Says(promise = 15, value = "BAD.")
    static void priceBad() {
        WashLine w = Check.world("k-c12345");
        for (int which : new int[] {-1, 5, BIG, SMALL}) {
            Check.refused(w, "price(" + which + ", 0)", BAD, () -> w.price(which, 0));
            Check.refused(w, "price(" + which + ", NONE)", BAD, () -> w.price(which, NONE));
        }
        for (int v : new int[] {-1, 10, -8, -10, BIG, SMALL}) {
            Check.refused(w, "price(0, " + v + ")", BAD, () -> w.price(0, v));
        }
    }
}

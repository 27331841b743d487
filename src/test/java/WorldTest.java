/** Promises 10 to 15: FAULTS, WORLDS, what is worn, growing, indoors, PRICES. */
public final class WorldTest {
    public static void main(String[] args) {
        faults();
        faultRefused();
        world();
        worldAnew();
        wears();
        grows();
        indoors();
        price();
        Check.end();
    }

    private static void fault(String text, int due) {
        WashLine w = new WashLine();
        Check.lay(w, 2, text);
        Check.due("10 fault of \"" + text + "\"", w.fault(2), due);
        long before = w.digest();
        int answer = w.world(2);
        if (due == WashLine.NONE) {
            Check.holds("11 world of \"" + text + "\"", answer >= 0);
        } else {
            Check.due("11 world of \"" + text + "\"", answer, WashLine.STATE);
            Check.due("11 digest of \"" + text + "\"", w.digest(), before);
        }
    }

    private static void faults() {
        int none = WashLine.NONE;
        fault("", none);
        fault("   ", none);
        fault("k-", none);
        fault(" k0  k5 ", none);
        fault("k0k1k2k3k4k5", none);
        fault("k-w0t7:0-9i7c09090", none);
        fault("  k-  w0t7:0-0  i0  c00000  ", none);
        fault("k", 1);
        fault(" k", 2);
        fault("k ", 1);
        fault("k 0", 1);
        fault("k6", 1);
        fault("k/", 1);
        fault("k--", 2);
        fault("k00", 2);
        fault("k0k1k2k3k4k5k", 12);
        fault("k0k1k2k3k4k5 k0", 13);
        fault("w0t0:0-0", 1);
        fault("w", 1);
        fault("k-w1t0:0-0", 3);
        fault("k-w", 3);
        fault("k-w-", 3);
        fault("k-w0", 4);
        fault("k-w0 t", 4);
        fault("k-w0x", 4);
        fault("k-w0t", 5);
        fault("k-w0t8:0-0", 5);
        fault("k-w0t/", 5);
        fault("k-w0t0", 6);
        fault("k-w0t0;", 6);
        fault("k-w0t0:", 7);
        fault("k-w0t0:a", 7);
        fault("k-w0t0: 1", 7);
        fault("k-w0t0:1", 8);
        fault("k-w0t0:1 -", 8);
        fault("k-w0t0:1:", 8);
        fault("k-w0t0:1-", 9);
        fault("k-w0t0:3-2", 9);
        fault("k-w0t0:3-3", none);
        fault("k-w0t0:0-9", none);
        fault("k-w0t0:9-9", none);
        fault("k-w0t0:9-:", 9);
        fault("k-w0t0:0-10", 10);
        fault("i", 1);
        fault("i8", 1);
        fault("i-", 1);
        fault("i00", 2);
        fault("c", 1);
        fault("c1234", 5);
        fault("c12345", none);
        fault("c123456", 6);
        fault("c12 345", 3);
        fault("c-1234", 1);
        fault("x", 0);
        fault(" K0", 1);
        fault("t", 0);
        fault("\n", 0);
        fault("\0", 0);
        fault("k-\u00a0", 2);
    }

    private static void faultRefused() {
        WashLine w = new WashLine();
        Check.finds(w, "10 fault", 0, w.fault(1), 1);
        Check.due("10 fault(4)", w.fault(4), -1);
        Check.due("10 fault(-1)", w.fault(-1), -1);
        Check.finds(w, "11 world", 1, w.world(1), 1);
        Check.due("11 world(4)", w.world(4), -1);
        Check.due("11 world(-1)", w.world(-1), -1);
    }

    private static void world() {
        WashLine w = new WashLine();
        Check.lay(w, 0, "k1 k- k0");
        Check.due("11 world", w.world(0), 3);
        Check.due("11 count", w.count(0), 3);
        Check.due("11 text stays", w.count(5), 1);
        Check.lay(w, 0, "k1k2k3k4k5k-");
        Check.due("11 world", w.world(0), 6);
        Check.lay(w, 0, "  ");
        Check.due("11 world", w.world(0), 0);
    }

    private static void worldAnew() {
        WashLine w = Check.world("k1k-w0t0:1-2w1t1:3-4i3c99999");
        Check.monday(w, 0, 0, 2);
        w.happen(0, 1, 0, 0);
        w.asked();
        w.row(0, 3);
        Check.lay(w, 1, "k-");
        Check.due("11 plain ahead", w.plain(), 9);
        Check.due("11 world", w.world(1), 1);
        Check.due("11 mondays go", w.count(1), 0);
        Check.due("11 happenings go", w.count(2), 0);
        Check.due("11 rows stay", w.count(4), 2);
        Check.due("11 grows anew", w.grows(0), WashLine.NONE);
        Check.due("11 wears anew", w.wears(0, 0), 0);
        Check.due("11 wears anew", w.asked(), 0);
        Check.due("11 indoors anew", w.indoors(), 0);
        int[] prices = {3, 3, 1, 2, 2};
        for (int which = 0; which < 5; which++) {
            Check.due("11 price anew", w.price(which, WashLine.NONE), prices[which]);
        }
        Check.due("11 plain anew", w.plain(), 0);
        Check.monday(w, 0, 0, 0);
        w.happen(0, 1, 0, 0);
        Check.lay(w, 1, "k");
        Check.due("11 a FAULT", w.world(1), WashLine.STATE);
        Check.due("11 a FAULT changes nothing", w.count(1), 1);
        Check.due("11 a FAULT changes nothing", w.count(2), 1);
        Check.due("11 a FAULT is no FINDING", w.finding(), 0);
    }

    private static void wears() {
        WashLine w = Check.world("k-k-w0t0:1-2w1t7:0-9w0t0:3-4w1t0:5-5");
        Check.due(w, "12 the last told counts", w.wears(0, 0), 3, 4);
        Check.due(w, "12 wears", w.wears(1, 7), 0, 9);
        Check.due(w, "12 not told", w.wears(0, 7), 0, 0);
        Check.due(w, "12 wears", w.wears(1, 0), 5, 5);
        Check.due(w, "12 wears(2)", w.wears(2, 0), -1, 5);
        Check.due(w, "12 wears(-1)", w.wears(-1, 0), -1, 5);
        Check.due(w, "12 wears(0, 8)", w.wears(0, 8), -1, 5);
        Check.due(w, "12 wears(0, -1)", w.wears(0, -1), -1, 5);
    }

    private static void grows() {
        WashLine w = Check.world("k2k1k5k-k0");
        Check.due("13 told later", w.grows(0), 2);
        Check.due("13 into itself", w.grows(1), 1);
        Check.due("13 never told", w.grows(2), WashLine.NONE);
        Check.due("13 into none", w.grows(3), WashLine.NONE);
        Check.due("13 told ahead", w.grows(4), 0);
        Check.due("13 grows(5)", w.grows(5), -1);
        Check.due("13 grows(-1)", w.grows(-1), -1);
        w = Check.world("k1");
        Check.due("13 the next, never told", w.grows(0), WashLine.NONE);
    }

    private static void indoors() {
        Check.due("14 indoors", Check.world("i0i7i3i3").indoors(), 1 | 128 | 8);
        Check.due("14 none", Check.world("k-").indoors(), 0);
    }

    private static void price() {
        WashLine w = Check.world("k-c01234c98765");
        int[] due = {9, 8, 7, 6, 5};
        for (int which = 0; which < 5; which++) {
            Check.due("15 price", w.price(which, WashLine.NONE), due[which]);
            Check.due("15 price", w.price(which, which), due[which]);
        }
        for (int which = 0; which < 5; which++) {
            Check.due("15 price", w.price(which, 9), which);
            Check.due("15 price", w.price(which, 0), 9);
        }
        Check.due("15 price(5)", w.price(5, 0), -1);
        Check.due("15 price(-1)", w.price(-1, WashLine.NONE), -1);
        Check.due("15 price 10", w.price(0, 10), -1);
        Check.due("15 price -1", w.price(0, -1), -1);
        Check.due("15 price -8", w.price(0, -8), -1);
        Check.due("15 price -10", w.price(0, -10), -1);
        Check.due("15 price stays", w.price(0, WashLine.NONE), 0);
        pricesCount();
    }

    private static void pricesCount() {
        WashLine w = Check.world("k1k-w0t0:1-1w1t1:1-1");
        Check.monday(w, 0, 0, 1);
        Check.monday(w, 0, 0, 0, 1);
        Check.due("15 plain by GROWN", w.plain(), 4);
        w.price(2, 9);
        // The guest is one of the second SORT, for nobody at home, on each MONDAY.
        Check.due("15 plain by GUESTS", w.plain(), 4);
        w.price(4, 9);
        Check.due("15 step by GONE and COME", w.step(1, 10), 6);
        // The first one stays, and is ill when the second one has come.
        Check.due("15 plain by COMES and ILL", w.plain(), 8);
        w.price(3, 9);
        Check.due("15 plain by GONE and COME", w.plain(), 9);
        w.price(0, 0);
        Check.due("15 plain, COMES for nothing", w.plain(), 3);
        w.price(1, 0);
        Check.due("15 plain for nothing", w.plain(), 0);
    }
}

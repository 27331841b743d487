/** Promises 34 to 38: HAPPENINGS, the TOLD household, what it HANGS. */
public final class HappeningsTest {
    private static final int NONE = WashLine.NONE;
    private static final int NOTE = 0, COME = 1, GONE = 2, GROWN = 3, ILL = 4, GUEST = 5, HANDED = 6;

    public static void main(String[] args) {
        happen();
        happenRefused();
        event();
        mark();
        markRefused();
        household();
        broken();
        judge();
        judgeBroken();
        guests();
        ill();
        handed();
        toldFirst();
        handedByMondays();
        rain();
        Check.end();
    }

    private static void happen() {
        WashLine w = Check.world("k1k-");
        for (int kind = 0; kind <= 6; kind++) {
            Check.due("34 happen", w.happen(11 - kind, kind, 1, 2), kind);
        }
        Check.due("34 count", w.count(2), 7);
        Check.due("46 COMES", w.count(3), 2);
        for (int e = 7; e < 16; e++) {
            Check.due("34 happen", w.happen(0, NOTE, 0, 0), e);
        }
        Check.due("34 a seventeenth", w.happen(0, NOTE, 0, 0), WashLine.FULL);
        Check.due("34 a seventeenth", w.happen(0, COME, 0, 0), WashLine.FULL);
        Check.due("34 BAD ahead of FULL", w.happen(0, COME, 2, 0), -1);
        Check.due("34 count", w.count(2), 16);
        Check.due("34 no FINDING", w.finding(), 0);
    }

    private static void happenRefused() {
        WashLine w = Check.world("k1k-");
        Check.due("34 monday 12", w.happen(12, NOTE, 0, 0), -1);
        Check.due("34 monday -1", w.happen(-1, NOTE, 0, 0), -1);
        Check.due("34 kind 7", w.happen(0, 7, 0, 1), -1);
        Check.due("34 kind -1", w.happen(0, -1, 0, 1), -1);
        for (int kind = COME; kind <= GUEST; kind++) {
            Check.due("34 sort 2, kind " + kind, w.happen(0, kind, 2, 0), -1);
            Check.due("34 sort -1, kind " + kind, w.happen(0, kind, -1, 0), -1);
        }
        Check.due("34 thing 8", w.happen(0, HANDED, 8, 0), -1);
        Check.due("34 thing -1", w.happen(0, HANDED, -1, 0), -1);
        Check.due("34 to thing 8", w.happen(0, HANDED, 0, 8), -1);
        Check.due("34 to thing -1", w.happen(0, HANDED, 0, -1), -1);
        Check.due("34 to the same thing", w.happen(0, HANDED, 3, 3), -1);
        Check.due("34 none", w.count(2), 0);
        Check.due("34 b is not looked at", w.happen(0, COME, 1, 99), 0);
        Check.due("34 a, b are not looked at", w.happen(0, NOTE, -7, 99), 1);
        Check.due("34 things, though no SORTS", w.happen(11, HANDED, 7, 0), 2);
    }

    private static void event() {
        WashLine w = Check.world("k1k-");
        Check.due(w, "35 event", w.event(0, 0), -1, 0);
        w.happen(3, NOTE, 5, 6);
        w.happen(4, GROWN, 1, 6);
        w.happen(11, HANDED, 5, 2);
        w.happen(0, GUEST, 1, 1);
        int[][] due = {{0, 3, 0, 0}, {3, 4, 1, 0}, {6, 11, 5, 2}, {5, 0, 1, 0}};
        for (int e = 0; e < 4; e++) {
            for (int what = 0; what < 4; what++) {
                Check.due(w, "35 event(" + e + ", " + what + ")", w.event(e, what), 1, due[e][what]);
            }
        }
        w.event(0, 1);
        Check.due(w, "35 event(4, 0)", w.event(4, 0), -1, 3);
        Check.due(w, "35 event(-1, 0)", w.event(-1, 0), -1, 3);
        Check.due(w, "35 event(0, 4)", w.event(0, 4), -1, 3);
        Check.due(w, "35 event(0, -1)", w.event(0, -1), -1, 3);
    }

    private static void mark() {
        WashLine w = Check.world("k1k-k-");
        w.happen(0, NOTE, 0, 0);
        w.happen(0, COME, 2, 0);
        w.happen(1, GONE, 2, 0);
        w.happen(2, GROWN, 1, 0);
        w.happen(0, ILL, 2, 0);
        w.happen(0, GUEST, 1, 0);
        w.happen(0, HANDED, 7, 3);
        w.happen(0, HANDED, 0, 7);
        Check.due("36 a COME", w.mark(1, COME), 2);
        Check.due("36 a GONE one", w.mark(2, GONE), 2);
        Check.due("36 a GROWN one", w.mark(3, GROWN), 1);
        Check.due("36 an ILL one", w.mark(4, ILL), 2);
        Check.due("36 a GUEST as a COME", w.mark(5, COME), 1);
        Check.due("36 a GUEST", w.mark(5, GUEST), 1);
        Check.due("36 a HANDED one", w.mark(6, HANDED), 73);
        Check.due("36 a HANDED one", w.mark(7, HANDED), 7);
        w.happen(0, COME, 1, 0);
        w.happen(0, COME, 0, 0);
        Check.due("36 a GUEST by three", w.mark(5, GUEST), 3);
        w.happen(1, GUEST, 0, 0);
        Check.due("36 a GUEST by two", w.mark(10, GUEST), 2);
        w.happen(5, GUEST, 0, 0);
        Check.due("36 a GUEST behind one GROWN into none", w.mark(11, GUEST), NONE);
        Check.due("36 no FINDING", w.finding(), 0);
        Check.due("36 asked stays", w.asked(), 0);
    }

    private static void markRefused() {
        WashLine w = Check.world("k1k-");
        Check.due("36 none", w.mark(0, COME), -1);
        for (int kind = 0; kind <= 6; kind++) {
            w.happen(0, kind, 0, 1);
        }
        int found = 0;
        for (int e = 0; e <= 6; e++) {
            Check.due("36 KIND 0", w.mark(e, NOTE), -1);
            Check.due("36 KIND 7", w.mark(e, 7), -1);
            Check.due("36 KIND -1", w.mark(e, -1), -1);
            for (int kind = COME; kind <= HANDED; kind++) {
                if (kind != e && !(e == GUEST && kind == COME)) {
                    Check.finds(w, "36 mark(" + e + ", " + kind + ")", found, w.mark(e, kind), 3);
                    found++;
                }
            }
        }
        Check.due("36 mark(7)", w.mark(7, COME), -1);
        Check.due("36 mark(-1)", w.mark(-1, COME), -1);
    }

    private static void household() {
        WashLine w = Check.world("k1k2k-");
        Check.due("37 nobody", w.household(0), 0);
        Check.due("37 nobody", w.household(11), 0);
        Check.due("37 household(12)", w.household(12), -1);
        Check.due("37 household(-1)", w.household(-1), -1);
        w.happen(5, GONE, 2, 0);
        w.happen(3, GROWN, 0, 0);
        w.happen(3, GROWN, 1, 0);
        w.happen(1, COME, 0, 0);
        w.happen(1, COME, 0, 0);
        w.happen(2, ILL, 0, 0);
        w.happen(2, GUEST, 1, 0);
        w.happen(2, HANDED, 0, 1);
        int[] due = {0, 2, 2, 101, 101, 1, 1, 1, 1, 1, 1, 1};
        for (int m = 0; m < 12; m++) {
            Check.due("37 household(" + m + ")", w.household(m), due[m]);
        }
        w = Check.world("k-k-k-k-k-k5");
        w.happen(0, COME, 5, 0);
        w.happen(11, COME, 3, 0);
        Check.due("37 household(10)", w.household(10), 100000);
        Check.due("37 household(11)", w.household(11), 101000);
        w.happen(11, GROWN, 5, 0);
        Check.due("37 GROWN into itself", w.household(11), 101000);
    }

    private static void broken() {
        WashLine w = Check.world("k1k-");
        w.happen(2, GONE, 0, 0);
        Check.due("37 GONE of nobody", w.household(2), NONE);
        Check.due("37 behind it", w.household(3), NONE);
        Check.due("37 ahead of it", w.household(1), 0);
        w.happen(1, COME, 0, 0);
        Check.due("37 told later, of an earlier MONDAY", w.household(2), 0);
        w.happen(4, GROWN, 0, 0);
        Check.due("37 GROWN of nobody", w.household(4), NONE);
        w.happen(4, COME, 0, 0);
        Check.due("37 told later, of the same MONDAY", w.household(4), NONE);
        w = Check.world("k1k-");
        w.happen(0, COME, 1, 0);
        w.happen(1, GROWN, 1, 0);
        w.happen(1, GUEST, 0, 0);
        w.happen(0, GUEST, 0, 0);
        Check.due("37 GROWN into none", w.household(1), NONE);
        Check.due("36 a GUEST of a BROKEN one", w.mark(2, GUEST), NONE);
        Check.due("36 a GUEST ahead of that", w.mark(3, GUEST), 1);
        w = Check.world("k1k-");
        for (int k = 0; k < 5; k++) {
            w.happen(0, COME, 0, 0);
        }
        w.happen(0, GUEST, 0, 0);
        w.happen(1, GROWN, 0, 0);
        Check.due("37 five, and a GUEST", w.household(0), 5);
        Check.due("37 GROWN among five", w.household(1), 14);
        w.happen(2, GONE, 0, 0);
        w.happen(2, COME, 1, 0);
        Check.due("37 GONE, then COME", w.household(2), 23);
        w.happen(3, COME, 1, 0);
        w.happen(3, GONE, 0, 0);
        Check.due("37 a sixth one", w.household(3), NONE);
        Check.due("37 five still", w.household(2), 23);
    }

    private static void judge() {
        WashLine w = Check.world("k-k-w0t0:1-2w0t1:1-1w1t2:2-3");
        Check.due(w, "38 no MONDAYS", w.judge(), NONE, 0);
        Check.monday(w, 0, 0);
        Check.monday(w, 0, 0, 2, 1);
        Check.monday(w, 0, 0, 3, 2);
        Check.monday(w, 0, 1, 3, 3, 3);
        w.row(0, 1);
        w.happen(1, COME, 0, 0);
        w.happen(2, COME, 0, 0);
        w.happen(3, COME, 1, 0);
        Check.due(w, "38 agrees with all", w.judge(), NONE, 0);
        w.hung(3, 2, 0);
        Check.due(w, "38 too little", w.judge(), 3, 2);
        w.hung(2, 1, 1);
        Check.due(w, "38 the first", w.judge(), 2, 1);
        w.hung(2, 0, 5);
        Check.due(w, "38 the first THING", w.judge(), 2, 0);
        w.hung(0, 7, 1);
        Check.due(w, "38 what none hangs", w.judge(), 0, 7);
        w.hung(0, 7, 0);
        w.hung(2, 1, 2);
        w.hung(2, 0, 4);
        w.hung(3, 2, 1);
        w.at(0, 0);
        Check.due(w, "38 agrees with all by DOUBT", w.judge(), NONE, 0);
        w.hung(3, 2, 5);
        Check.due(w, "38 above DOUBT", w.judge(), 3, 2);
    }

    private static void judgeBroken() {
        WashLine w = Check.world("k-w0t0:1-1");
        Check.monday(w, 0, 0);
        Check.monday(w, 0, 0);
        w.happen(2, GONE, 0, 0);
        Check.due(w, "38 BROKEN behind the last MONDAY", w.judge(), NONE, 0);
        w.happen(1, GONE, 0, 0);
        Check.due(w, "38 BROKEN", w.judge(), 1, NONE);
        w.hung(0, 0, 1);
        Check.due(w, "38 not agreed ahead of BROKEN", w.judge(), 0, 0);
        w.hung(0, 0, 0);
        w.happen(0, GROWN, 0, 0);
        Check.due(w, "38 BROKEN at first", w.judge(), 0, NONE);
    }

    private static void guests() {
        WashLine w = Check.world("k-k-w0t0:1-2w1t0:3-3");
        w.happen(0, COME, 0, 0);
        w.happen(0, GUEST, 1, 0);
        w.happen(0, GUEST, 1, 0);
        Check.monday(w, 0, 0, 7);
        Check.due(w, "38 GUESTS at least", w.judge(), NONE, 0);
        w.hung(0, 0, 6);
        Check.due(w, "38 less", w.judge(), 0, 0);
        w.hung(0, 0, 8);
        w.at(5, 7);
        Check.due(w, "38 GUESTS at most", w.judge(), NONE, 0);
        w.hung(0, 0, 9);
        Check.due(w, "38 more", w.judge(), 0, 0);
        w.hung(0, 0, 8);
        Check.monday(w, 0, 0, 2);
        Check.due(w, "38 GUESTS for that MONDAY alone", w.judge(), NONE, 0);
        w.happen(1, GUEST, 0, 0);
        w.happen(1, ILL, 1, 0);
        w.happen(1, ILL, 0, 0);
        w.happen(1, ILL, 0, 0);
        w.hung(1, 0, 1);
        Check.due(w, "38 GUESTS are not ILL", w.judge(), NONE, 0);
        w.hung(1, 0, 0);
        Check.due(w, "38 GUESTS are not ILL", w.judge(), 1, 0);
    }

    private static void ill() {
        WashLine w = Check.world("k1k-w0t0:2-3w1t0:1-1");
        w.happen(0, COME, 0, 0);
        w.happen(0, COME, 0, 0);
        w.happen(0, ILL, 0, 0);
        Check.monday(w, 0, 0, 2);
        Check.due(w, "38 one ILL", w.judge(), NONE, 0);
        w.hung(0, 0, 1);
        Check.due(w, "38 one ILL", w.judge(), 0, 0);
        w.hung(0, 0, 6);
        Check.due("38 one ILL, at most as ever", w.judge(), NONE);
        w.hung(0, 0, 7);
        Check.due("38 one ILL, at most as ever", w.judge(), 0);
        w.hung(0, 0, 0);
        w.happen(0, ILL, 0, 0);
        Check.due("38 two ILL", w.judge(), NONE);
        w.happen(0, COME, 1, 0);
        Check.due("38 the third is not", w.judge(), 0);
        w.happen(0, ILL, 0, 0);
        Check.due("38 no more ILL than there are", w.judge(), 0);
        w.happen(0, ILL, 1, 0);
        Check.due("38 three ILL", w.judge(), NONE);
        Check.monday(w, 0, 0, 4);
        Check.due("38 ILL on that MONDAY alone", w.judge(), 1);
        w.hung(1, 0, 5);
        Check.due("38 ILL on that MONDAY alone", w.judge(), NONE);
        // Of the people behind that MONDAY's growing.
        w.happen(2, GROWN, 0, 0);
        w.happen(2, ILL, 1, 0);
        w.happen(2, ILL, 1, 0);
        Check.monday(w, 0, 0, 2);
        Check.due("38 ILL ones of the SORT that has grown", w.judge(), NONE);
        w.hung(2, 0, 1);
        Check.due("38 ILL ones of the SORT that has grown", w.judge(), 2);
    }

    private static void handed() {
        WashLine w = Check.world("k-w0t0:1-2w0t1:1-1");
        w.happen(0, COME, 0, 0);
        w.happen(1, HANDED, 0, 3);
        Check.monday(w, 0, 0, 1, 1);
        Check.monday(w, 0, 0, 0, 1, 0, 1);
        Check.monday(w, 0, 0, 1, 1, 0, 1);
        Check.due("38 HANDED, from that MONDAY on", w.judge(), NONE);
        w.hung(2, 0, 2);
        Check.due(w, "38 one less at most", w.judge(), 2, 0);
        w.hung(2, 0, 1);
        w.hung(2, 3, 0);
        Check.due(w, "38 one more at least", w.judge(), 2, 3);
        w.hung(2, 3, 2);
        Check.due(w, "38 one more at most", w.judge(), 2, 3);
        w.hung(2, 3, 1);
        // Nothing is left of THING 2 to be handed down.
        w.happen(2, HANDED, 2, 7);
        Check.due(w, "38 no less than none, one more still", w.judge(), 2, 7);
        w.hung(2, 7, 1);
        Check.due("38 no less than none", w.judge(), NONE);
        w.hung(2, 0, 0);
        w.happen(2, HANDED, 0, 4);
        w.hung(2, 4, 1);
        Check.due("38 twice the same", w.judge(), NONE);
        w.happen(2, HANDED, 7, 4);
        w.hung(2, 4, 2);
        w.hung(2, 7, 0);
        Check.due("38 handed on", w.judge(), NONE);
        w.happen(3, HANDED, 0, 1);
        Check.due("38 not yet", w.judge(), NONE);
    }

    private static void toldFirst() {
        WashLine w = Check.world("k-w0t0:1-1");
        w.happen(0, GUEST, 0, 0);
        Check.monday(w, 0, 0, 1);
        Check.due("38 a GUEST told first", w.judge(), NONE);
        w = Check.world("k-w0t0:1-1");
        w.happen(0, ILL, 0, 0);
        w.happen(0, COME, 0, 0);
        Check.monday(w, 0, 0);
        Check.due("38 an ILL one told first", w.judge(), NONE);
        w = Check.world("k-w0t0:1-1");
        w.happen(0, HANDED, 0, 1);
        w.happen(0, COME, 0, 0);
        Check.monday(w, 0, 0, 0, 1);
        Check.due("38 a HANDED one told first", w.judge(), NONE);
        w.hung(0, 0, 1);
        Check.due(w, "38 none is left", w.judge(), 0, 0);
        w.world(3);
        Check.monday(w, 0, 0);
        Check.due("38 HANDED ones go with the WORLD", w.judge(), NONE);
        w.happen(0, COME, 0, 0);
        w.happen(0, GUEST, 0, 0);
        w.happen(0, GUEST, 0, 0);
        w.world(3);
        w.happen(0, COME, 0, 0);
        Check.monday(w, 0, 0, 1);
        Check.due("38 GUESTS go with the WORLD", w.judge(), NONE);
    }

    /** In the order of the MONDAYS, those of one MONDAY as told. */
    private static void handedByMondays() {
        WashLine w = Check.world("k-");
        w.happen(1, HANDED, 0, 1);
        w.happen(0, HANDED, 2, 0);
        Check.monday(w, 0, 0, 1);
        Check.monday(w, 0, 0, 0, 1);
        // First THING 0 comes to one, then it goes to THING 1.
        Check.due("38 HANDED, MONDAY by MONDAY", w.judge(), NONE);
        w = Check.world("k-");
        w.happen(0, HANDED, 0, 1);
        w.happen(0, HANDED, 2, 0);
        Check.monday(w, 0, 0, 1, 1);
        Check.due("38 HANDED, as told", w.judge(), NONE);
    }

    private static void rain() {
        WashLine w = Check.world("k-w0t0:2-3i0i1");
        w.happen(0, COME, 0, 0);
        w.happen(0, HANDED, 0, 1);
        Check.monday(w, 1, 0);
        Check.due("38 RAIN, nothing at least, handed too", w.judge(), NONE);
        Check.monday(w, 1, 0, 2, 1);
        Check.due("38 RAIN, at most as ever", w.judge(), NONE);
        w.hung(1, 0, 3);
        Check.due(w, "38 RAIN, at most one less", w.judge(), 1, 0);
        w.hung(1, 0, 2);
        Check.monday(w, 0, 0, 2, 0);
        Check.due(w, "38 dry", w.judge(), 2, 1);
        w.hung(2, 1, 1);
        w.hung(2, 0, 0);
        Check.due(w, "38 dry", w.judge(), 2, 0);
    }
}

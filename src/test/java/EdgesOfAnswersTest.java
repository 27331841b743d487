/** ANSWERS, and what is told, promises 42 to 49: their boundary cases, sentence by sentence. */
public final class EdgesOfAnswersTest {
    private static final int BAD = WashLine.BAD, FULL = WashLine.FULL, FINDING = WashLine.FINDING;
    private static final int STATE = WashLine.STATE, SPENT = WashLine.SPENT, NONE = WashLine.NONE;
    private static final int NOTHING = 1, BEYOND = 2, UNLIKE = 3, NOUGHT = 4, SIZE = 5;
    private static final int BIG = Integer.MAX_VALUE, SMALL = Integer.MIN_VALUE;

    public static void main(String[] args) {
        Edges.run(EdgesOfAnswersTest.class);
    }

    /** An object in which every call has something to tell; ROW 0 and TEXT 3 are there, ROWS 1 to 4 are not. */
    private static WashLine some() {
        WashLine w = Check.world("k1k-w0t0:1-2w1t0:3-4w1t1:1-1i2c33199");
        Check.monday(w, 1, 2, 5, 1);
        Check.monday(w, 0, 0, 2);
        w.happen(0, 1, 0, 0);
        w.happen(0, 5, 1, 0);
        w.happen(4, 6, 7, 2);
        Check.row(w, 0, 50, 70, -3);
        return w;
    }

    // ---- what it is

    @Says(promise = -1, value = "An object is used for at most 512 calls after it has been made")
    static void fiveHundredAndTwelveCalls() {
        WashLine w = new WashLine();
        int calls = 0;
        String world = "k1k2k3k4k5k0c00000";
        w.text(0, world.length());
        for (int i = 0; i < world.length(); i++) {
            w.put(0, i, world.charAt(i));
            calls++;
        }
        w.world(0);
        w.row(0, 8);
        calls += 3;
        for (int m = 0; m < 12; m++) {
            Check.due("monday", w.monday(m % 2, 0, 9), m);
            calls++;
        }
        for (int turn = 0; calls < 508; turn++) {
            Check.due("price, call " + calls, w.price(0, (turn + 1) % 2), turn % 2);
            Check.due("plain, call " + calls, w.plain(), 0);
            Check.due("through, call " + calls, w.through(turn % 12, 5), 5 * ((turn + 1) % 2));
            calls += 3;
        }
        w.price(0, 0);
        calls++;
        while (calls < 511) {
            Check.due("ways, call " + calls, w.ways(), SPENT);
            calls++;
        }
        Check.due("the last call", w.count(1), 12);
    }

    // ---- the terms: ANSWERS

    @Says("Refused is, the first of these that fits, in this order")
    static void refusedInOrder() {
        WashLine w = some();
        for (int e = 3; e < 16; e++) {
            w.happen(0, 0, 0, 0);
        }
        Check.refused(w, "happen: BAD ahead of FULL", BAD, () -> w.happen(12, 0, 0, 0));
        Check.refused(w, "happen: FULL", FULL, () -> w.happen(11, 0, 0, 0));
        Check.refused(w, "row: BAD ahead of SIZE", BAD, () -> w.row(6, -1));
        Check.refused(w, "text: BAD ahead of SIZE", BAD, () -> w.text(4, -1));
        Check.refused(w, "lay: BAD ahead of BEYOND", BAD, () -> w.lay(6, -1, 0));
        Check.refused(w, "mark: BAD ahead of UNLIKE", BAD, () -> w.mark(0, 7));
        w.text(0, 1);
        w.put(0, 0, 'k');
        Check.refused(w, "world: STATE", STATE, () -> w.world(0));
        w.hung(1, 0, 40);
        Check.refused(w, "tale: BAD ahead of NOUGHT", BAD, () -> w.tale(6));
        Check.refused(w, "see: BAD ahead of NOUGHT", BAD, () -> w.see(2));
        Check.finds(w, "see: NOUGHT", NOUGHT, () -> w.see(1));
    }

    @Says("unless a call says so otherwise.")
    static void orderThatCallsSay() {
        WashLine w = Check.world("k-k-k-k-k-k-c00000");
        Check.finds(w, "world: FINDING ahead of STATE", NOTHING, () -> w.world(0));
        Check.finds(w, "copy: SIZE ahead of NOTHING", SIZE, () -> w.copy(0, 0, 1, 0, -1));
        for (int m = 0; m < 12; m++) {
            Check.monday(w, 0, 0);
        }
        Check.finds(w, "monday: FINDING ahead of FULL", NOTHING, () -> w.monday(0, 0, 0));
        Check.refused(w, "share: SPENT", SPENT, () -> w.share(0, 0, 0));
        w.hung(0, 0, 1);
        Check.finds(w, "share: FINDING ahead of SPENT", NOUGHT, () -> w.share(0, 0, 0));
    }

    @Says({"BAD -1 (a number that is none, or not as told), FULL -2, STATE -4 (not now), SPENT -6 (more than told)",
        "FINDING -3 (finding() tells which)", "NONE -9"})
    static void constants() {
        Check.due("BAD", WashLine.BAD, -1);
        Check.due("FULL", WashLine.FULL, -2);
        Check.due("FINDING", WashLine.FINDING, -3);
        Check.due("STATE", WashLine.STATE, -4);
        Check.due("SPENT", WashLine.SPENT, -6);
        Check.due("NONE", WashLine.NONE, -9);
    }

    @Says("What is refused changes nothing but finding(), findings().")
    static void refusedChangesNothing() {
        WashLine w = some();
        WashLine twin = some();
        for (WashLine each : new WashLine[] {w, twin}) {
            each.ways();
            each.share(1, 0, 1);
            each.at(0, 1);
        }
        refuse(w);
        sameAs(w, twin);
        Check.due("finding()", w.finding(), NOTHING);
        Check.due("finding() of the twin", twin.finding(), 0);
    }

    private static void refuse(WashLine w) {
        long[] bad = {
            w.row(0, 41), w.row(-1, 2), w.lay(6, 0, 9), w.at(-1, 0), w.tear(6), w.copy(0, 0, 6, 0, 1), w.mean(6),
            w.text(3, 121), w.text(4, 5), w.put(4, 0, 9), w.fault(-1), w.world(4), w.wears(2, 0), w.wears(0, 8),
            w.grows(2), w.price(5, 1), w.price(0, 10), w.monday(2, 0, 0), w.hung(0, 0, 41), w.hung(2, 0, 1),
            w.told(0, 10), w.back(3), w.back(-1), w.hangs(6, 0, 0), w.hangs(0, 2, 0), w.explains(2, 0),
            w.explains(0, 100), w.lacks(-1, 0), w.fewest(2), w.bound(2), w.many(0, 10), w.step(0, 6), w.tale(6),
            w.sure(0, 2), w.share(0, 0, 6), w.through(0, 6), w.rival(2), w.happen(12, 0, 0, 0), w.happen(0, 1, 2, 0),
            w.happen(0, 6, 3, 3), w.event(3, 0), w.mark(0, 0), w.household(12), w.doubts(6), w.see(2), w.count(6),
            w.findings(6)
        };
        for (int k = 0; k < bad.length; k++) {
            Check.due("BAD, call " + k, bad[k], BAD);
        }
        long[] found = {
            w.row(0, -1), w.lay(0, 3, 9), w.at(0, -1), w.tear(1), w.copy(0, 0, 0, 0, -1), w.copy(0, 0, 1, 0, 1),
            w.copy(0, 1, 0, 0, 3), w.mean(1), w.text(3, -1), w.put(3, 120, 9), w.put(0, 0, 9), w.fault(0), w.mark(0, 2),
            w.monday(0, 0, 0), w.monday(0, 1, 0), w.world(0)
        };
        for (int k = 0; k < found.length; k++) {
            Check.due("FINDING, call " + k, found[k], FINDING);
        }
    }

    private static void sameAs(WashLine w, WashLine twin) {
        Check.due("digest()", w.digest(), twin.digest());
        Check.due("asked()", w.asked(), twin.asked());
        Check.due("tales()", w.tales(), twin.tales());
        Check.due("upper()", w.upper(), twin.upper());
        Check.due("lower()", w.lower(), twin.lower());
        Check.due("plain()", w.plain(), twin.plain());
        Check.due("judge()", w.judge(), twin.judge());
        Check.due("household(11)", w.household(11), twin.household(11));
        Check.due("step(1, 10)", w.step(1, 10), twin.step(1, 10));
        Check.due("tale(4)", w.tale(4), twin.tale(4));
        Check.due("digest() behind tale(4)", w.digest(), twin.digest());
        Check.due("the next MONDAY", Check.monday(w, 0, 0), Check.monday(twin, 0, 0));
        Check.due("the next HAPPENING", w.happen(0, 0, 0, 0), twin.happen(0, 0, 0, 0));
    }

    @Says("1 NOTHING (a ROW, a TEXT that is missing)")
    static void findsNothing() {
        WashLine w = new WashLine();
        Check.finds(w, "at", NOTHING, () -> w.at(5, 0));
        Check.finds(w, "lay", NOTHING, () -> w.lay(5, 0, 0));
        Check.finds(w, "tear", NOTHING, () -> w.tear(5));
        Check.finds(w, "copy", NOTHING, () -> w.copy(5, 0, 5, 0, 0));
        Check.finds(w, "mean", NOTHING, () -> w.mean(5));
        Check.finds(w, "monday", NOTHING, () -> w.monday(0, 5, 0));
        Check.finds(w, "put", NOTHING, () -> w.put(3, 0, 0));
        Check.finds(w, "fault", NOTHING, () -> w.fault(3));
        Check.finds(w, "world", NOTHING, () -> w.world(3));
        Check.due("tale() makes a missing ROW", w.tale(5), 0);
    }

    @Says("2 BEYOND (a place that there is not)")
    static void findsBeyond() {
        WashLine w = new WashLine();
        w.row(0, 0);
        w.text(0, 0);
        Check.finds(w, "at", BEYOND, () -> w.at(0, 0));
        Check.finds(w, "lay", BEYOND, () -> w.lay(0, 0, 0));
        Check.finds(w, "copy", BEYOND, () -> w.copy(0, 0, 0, 0, 1));
        Check.finds(w, "put", BEYOND, () -> w.put(0, 0, 0));
    }

    @Says("3 UNLIKE (a HAPPENING of another KIND; a number that is none)")
    static void findsUnlike() {
        WashLine w = Check.world("k-");
        w.happen(0, 1, 0, 0);
        Check.finds(w, "mark", UNLIKE, () -> w.mark(0, 5));
        Check.row(w, 0, 0, 0, 0, 0, 0, 0, 0, 41);
        Check.finds(w, "monday", UNLIKE, () -> w.monday(0, 0, 0));
    }

    @Says("4 NOUGHT (shared among none; no tale)")
    static void findsNought() {
        WashLine w = Check.world("k-");
        w.row(0, 0);
        Check.finds(w, "mean", NOUGHT, () -> w.mean(0));
        Check.monday(w, 0, 0, 1);
        Check.finds(w, "tale", NOUGHT, () -> w.tale(0));
        Check.finds(w, "sure", NOUGHT, () -> w.sure(0, 0));
        Check.finds(w, "share", NOUGHT, () -> w.share(0, 0, 0));
        Check.finds(w, "rival", NOUGHT, () -> w.rival(0));
        Check.finds(w, "see", NOUGHT, () -> w.see(0));
    }

    @Says("5 SIZE (fewer than none; not as many as due)")
    static void findsSize() {
        WashLine w = Check.world("k-");
        Check.finds(w, "row", SIZE, () -> w.row(0, -1));
        Check.finds(w, "text", SIZE, () -> w.text(0, -1));
        Check.finds(w, "copy", SIZE, () -> w.copy(0, 0, 0, 0, -1));
        w.row(0, 7);
        Check.finds(w, "monday", SIZE, () -> w.monday(0, 0, 0));
    }

    @Says("Fractions are told by upper() and lower(), in lowest terms, the lower number above 0 (0 by 1).")
    static void fractionsInLowestTerms() {
        WashLine w = Check.world("k-k-k-w0t0:1-1w1t0:1-1w2t0:1-1c33199");
        Check.monday(w, 0, 0, 3);
        // 3, 12, 21, 30, 102, 111, 120, 201, 210, 300.
        long[][] due = {{2, 5}, {3, 10}, {1, 5}, {1, 10}, {0, 1}, {0, 1}};
        for (int n = 0; n <= 5; n++) {
            Check.due("share(0, 1, " + n + ")", w.share(0, 1, n), 1);
            Check.due("upper() of " + n, w.upper(), due[n][0]);
            Check.due("lower() of " + n, w.lower(), due[n][1]);
        }
        Check.monday(w, 0, 0, 0);
        w.share(1, 0, 0);
        Check.due("upper() of all", w.upper(), 1);
        Check.due("lower() of all", w.lower(), 1);
    }

    @Says("Sets are told by bits.")
    static void setsByBits() {
        WashLine w = Check.world("k-i0i7w0t0:1-1w0t7:1-1");
        Check.monday(w, 0, 0, 0, 1, 0, 0, 0, 0, 1);
        Check.due("indoors()", w.indoors(), 129);
        Check.due(w, "lacks(0, 1)", w.lacks(0, 1), 129, 66);
        w.back(0);
        Check.monday(w, 0, 0, 1, 0, 0, 0, 0, 0, 0, 1);
        Check.due(w, "no bits", w.lacks(0, 1), 0, 0);
    }

    // ---- promise 42: asked

    @Says(promise = 42, value = "What the latest lay(), at(), mean(), wears(), told(), hangs(), explains(), lacks(), "
        + "fewest(), sure(), rival(), event(), judge(), least(), see()")
    static void askedOfEach() {
        WashLine w = some();
        Check.due(w, "lay", w.lay(0, 2, -4), 1, -3);
        Check.due(w, "at", w.at(0, 0), 1, 50);
        Check.due(w, "mean", w.mean(0), 1, 38);
        Check.due(w, "wears", w.wears(1, 0), 3, 4);
        Check.due(w, "told", w.told(0, 1), 1, 2);
        Check.due(w, "hangs", w.hangs(11, 0, 0), 4, 6);
        Check.due(w, "explains", w.explains(1, 0), 9, 20);
        Check.due(w, "lacks", w.lacks(1, 0), 0, 1);
        Check.due(w, "fewest", w.fewest(0), 1, 10);
        Check.due(w, "sure", w.sure(0, 0), 2, 2);
        Check.due(w, "rival", w.rival(1), 9, 1);
        Check.due(w, "event", w.event(2, 2), 1, 7);
        Check.due(w, "least", w.least(), 2, 2);
        Check.due(w, "see", w.see(0), 0, 0);
        w.hung(1, 3, 1);
        Check.due(w, "judge", w.judge(), 1, 3);
    }

    @Says(promise = 42, value = "that was not refused (nor NONE) told")
    static void askedStaysWhenRefusedOrNone() {
        WashLine w = some();
        w.at(0, 1);
        Check.due("asked()", w.asked(), 70);
        int[] refused = {
            w.lay(0, 3, 1), w.at(6, 0), w.mean(1), w.wears(2, 0), w.told(0, 10), w.hangs(6, 0, 0), w.explains(2, 0),
            w.lacks(0, 6), w.fewest(-1), w.sure(2, 0), w.rival(2), w.event(3, 0), w.see(2)
        };
        for (int k = 0; k < refused.length; k++) {
            Check.holds("refused, call " + k, refused[k] == BAD || refused[k] == FINDING);
        }
        Check.due("refused: asked()", w.asked(), 70);
        w.hung(1, 7, 40);
        Check.due("explains", w.explains(1, 0), NONE);
        Check.due("fewest", w.fewest(1), NONE);
        Check.due("sure, no TALE", w.sure(0, 0), FINDING);
        Check.due("rival, no TALE", w.rival(0), FINDING);
        Check.due("see, no TALE", w.see(0), FINDING);
        w.back(0);
        Check.due("judge", w.judge(), NONE);
        Check.due("NONE: asked()", w.asked(), 70);
        Check.lay(w, 0, "");
        w.world(0);
        Check.monday(w, 0, 0);
        w.at(0, 1);
        Check.due("rival", w.rival(0), NONE);
        Check.due("NONE: asked()", w.asked(), 70);
    }

    @Says(promise = 42, value = "What the latest lay(), at(), mean()")
    static void askedStaysBehindOtherCalls() {
        WashLine w = some();
        w.at(0, 1);
        w.row(1, 2);
        w.tear(1);
        w.copy(0, 0, 0, 1, 1);
        w.text(1, 2);
        w.put(1, 0, 9);
        w.fault(3);
        w.grows(0);
        w.indoors();
        w.price(0, NONE);
        w.hung(0, 0, 3);
        w.bound(0);
        w.many(0, 9);
        w.step(0, 1);
        w.plain();
        w.tale(4);
        w.ways();
        w.share(0, 0, 0);
        w.through(0, 1);
        w.happen(0, 0, 0, 0);
        w.mark(2, 6);
        w.household(0);
        w.doubts(0);
        w.count(0);
        w.finding();
        w.findings(1);
        w.digest();
        w.monday(0, 5, 0);
        w.back(0);
        w.world(3);
        Check.due("asked()", w.asked(), 70);
    }

    @Says(promise = 42, value = "0 before.")
    static void askedBefore() {
        WashLine w = new WashLine();
        Check.due("a new object", w.asked(), 0);
        w.at(0, 0);
        w.judge();
        w.plain();
        Check.due("refused, NONE and other calls alone", w.asked(), 0);
        w.row(0, 1);
        w.lay(0, 0, 5);
        w.at(0, 0);
        Check.due("behind at()", w.asked(), 5);
    }

    // ---- promises 43 to 45: tales, upper, lower

    @Says(promise = 43, value = "What the latest ways() that was not refused told")
    static void talesOfLatest() {
        WashLine w = Check.world("k-k-k-k-k-k-c00000");
        Check.monday(w, 0, 0);
        w.ways();
        Check.due("all", w.tales(), 462);
        for (int m = 1; m < 6; m++) {
            Check.monday(w, 0, 0);
        }
        Check.due("ways()", w.ways(), SPENT);
        Check.due("refused", w.tales(), 462);
        w.hung(0, 0, 1);
        Check.due("of then", w.tales(), 462);
        Check.due("ways()", w.ways(), 0);
        Check.due("none", w.tales(), 0);
    }

    @Says(promise = 43, value = "0 before.")
    static void talesBefore() {
        WashLine w = new WashLine();
        Check.due("a new object", w.tales(), 0);
        w.plain();
        w.tale(0);
        Check.due("other calls alone", w.tales(), 0);
        w.ways();
        Check.due("behind ways()", w.tales(), 1);
    }

    @Says(promise = 44, value = "The upper number of the fraction that was told last")
    static void upperOfLast() {
        WashLine w = Check.world("k-k-w0t0:1-1w1t0:1-1c33199");
        Check.monday(w, 0, 0, 5);
        w.share(0, 0, 5);
        Check.due("one of six", w.upper(), 1);
        Check.refused(w, "BAD", BAD, () -> w.share(0, 0, 6));
        w.hung(0, 0, 40);
        Check.finds(w, "NOUGHT", NOUGHT, () -> w.share(0, 0, 0));
        Check.due("one of six yet", w.upper(), 1);
        w.hung(0, 0, 1);
        w.share(0, 0, 5);
        Check.due("none of two", w.upper(), 0);
    }

    @Says(promise = 44, value = "0 before.")
    static void upperBefore() {
        WashLine w = new WashLine();
        Check.due("a new object", w.upper(), 0);
        w.ways();
        w.share(0, 0, 0);
        Check.due("ways(), and what was refused", w.upper(), 0);
    }

    @Says(promise = 45, value = "Its lower number")
    static void lowerOfLast() {
        WashLine w = Check.world("k-k-w0t0:1-1w1t0:1-1c33199");
        Check.monday(w, 0, 0, 5);
        w.share(0, 0, 5);
        Check.due("one of six", w.lower(), 6);
        w.ways();
        w.hung(0, 0, 40);
        Check.finds(w, "NOUGHT", NOUGHT, () -> w.share(0, 0, 0));
        Check.due("one of six yet", w.lower(), 6);
        w.hung(0, 0, 1);
        w.share(0, 0, 5);
        Check.due("none: 0 by 1", w.lower(), 1);
    }

    @Says(promise = 45, value = "1 before.")
    static void lowerBefore() {
        WashLine w = new WashLine();
        Check.due("a new object", w.lower(), 1);
        w.ways();
        w.share(0, 0, 0);
        Check.due("ways(), and what was refused", w.lower(), 1);
    }

    // ---- promise 46: count

    @Says(promise = 46, value = "0 SORTS, 1 MONDAYS, 2 HAPPENINGS")
    static void countOfNoneAndAll() {
        WashLine w = new WashLine();
        for (int what = 0; what < 6; what++) {
            Check.due("none, count(" + what + ")", w.count(what), 0);
        }
        Check.lay(w, 0, "k-k-k-k-k-k-");
        w.world(0);
        for (int m = 0; m < 12; m++) {
            Check.monday(w, 0, 0);
        }
        for (int e = 0; e < 16; e++) {
            w.happen(0, 4, 0, 0);
        }
        Check.monday(w, 0, 0);
        w.happen(0, 1, 0, 0);
        Check.due("SORTS", w.count(0), 6);
        Check.due("MONDAYS", w.count(1), 12);
        Check.due("HAPPENINGS", w.count(2), 16);
        w.back(1);
        Check.due("MONDAYS", w.count(1), 1);
        w.text(0, 0);
        w.world(0);
        for (int what = 0; what < 4; what++) {
            Check.due("none again, count(" + what + ")", w.count(what), 0);
        }
    }

    @Says(promise = 46, value = "3 COMES (GUESTS, too)")
    static void countOfComes() {
        WashLine w = Check.world("k-");
        for (int kind = 0; kind <= 6; kind++) {
            w.happen(0, kind, 0, 1);
            Check.due("up to KIND " + kind, w.count(3), kind == 0 ? 0 : kind < 5 ? 1 : 2);
        }
        for (int e = 7; e < 16; e++) {
            w.happen(11, 5, 0, 0);
        }
        Check.due("GUESTS", w.count(3), 11);
    }

    @Says(promise = 46, value = "4 ROWS, 5 TEXTS that are there.")
    static void countOfRowsAndTexts() {
        WashLine w = new WashLine();
        for (int r = 0; r < 6; r++) {
            w.row(r, 0);
            w.row(r, 40);
            Check.due("ROWS", w.count(4), r + 1);
        }
        for (int t = 0; t < 4; t++) {
            w.text(t, 0);
            w.text(t, 120);
            Check.due("TEXTS", w.count(5), t + 1);
        }
        for (int r = 0; r < 6; r++) {
            w.tear(r);
            w.tear(r);
            Check.due("ROWS", w.count(4), 5 - r);
        }
    }

    @Says(promise = 46, value = "BAD.")
    static void countBad() {
        WashLine w = some();
        for (int what : new int[] {-1, 6, BIG, SMALL}) {
            Check.refused(w, "count(" + what + ")", BAD, () -> w.count(what));
        }
    }

    // ---- promises 47, 48: finding, findings

    @Says(promise = 47, value = "The latest FINDING")
    static void latestFinding() {
        WashLine w = Check.world("k-");
        w.happen(0, 0, 0, 0);
        w.row(0, -1);
        Check.due("SIZE", w.finding(), SIZE);
        w.row(0, 0);
        w.mean(0);
        Check.due("NOUGHT", w.finding(), NOUGHT);
        w.mark(0, 1);
        Check.due("UNLIKE", w.finding(), UNLIKE);
        w.at(0, 0);
        Check.due("BEYOND", w.finding(), BEYOND);
        w.at(1, 0);
        Check.due("NOTHING", w.finding(), NOTHING);
        w.at(6, 0);
        w.plain();
        w.row(0, 1);
        w.at(0, 0);
        w.judge();
        Check.due("BAD, NONE and what is not refused are no FINDINGS", w.finding(), NOTHING);
    }

    @Says(promise = 47, value = "(0 before any).")
    static void findingBefore() {
        WashLine w = Check.world("k-k-k-k-k-k-c00000");
        Check.due("behind calls that find nothing", w.finding(), 0);
        w.at(6, 0);
        for (int m = 0; m < 13; m++) {
            Check.monday(w, 0, 9);
        }
        w.ways();
        w.put(3, 0, 0);
        w.world(3);
        w.hung(0, 0, 40);
        w.plain();
        Check.due("behind BAD, FULL, SPENT, STATE, NONE", w.finding(), 0);
        Check.due("a new object", new WashLine().finding(), 0);
    }

    @Says(promise = 48, value = "How often a FINDING (1 .. 5) was answered.")
    static void findingsCounted() {
        WashLine w = Check.world("k-");
        w.happen(0, 0, 0, 0);
        for (int f = 1; f <= 5; f++) {
            Check.due("before, findings(" + f + ")", w.findings(f), 0);
        }
        w.row(0, 0);
        for (int k = 0; k < 50; k++) {
            w.at(1, 0);
            w.at(0, k < 40 ? 0 : 6);
            w.mark(0, k < 30 ? 1 : 0);
            w.mean(k < 20 ? 0 : 6);
            w.row(k < 10 ? 0 : 6, -1);
        }
        for (int f = 1; f <= 5; f++) {
            Check.due("findings(" + f + ")", w.findings(f), f == 2 ? 50 : 60 - 10 * f);
        }
    }

    @Says(promise = 48, value = "BAD.")
    static void findingsBad() {
        WashLine w = some();
        w.at(1, 0);
        for (int f : new int[] {-1, 0, 6, BIG, SMALL}) {
            Check.refused(w, "findings(" + f + ")", BAD, () -> w.findings(f));
        }
    }

    // ---- promise 49: digest

    private static long h;

    private static void add(long... values) {
        for (long v : values) {
            h = 31 * h + v;
        }
    }

    private static void addAll(int times, long v) {
        for (int k = 0; k < times; k++) {
            add(v);
        }
    }

    @Says(promise = 49, value = "h = 17; then h = 31 h + v for each v")
    static void digestOfNewObject() {
        h = 17;
        // Counts, indoors(), PRICES, ROWS and TEXTS that are missing.
        addAll(6, 0);
        add(0);
        add(3, 3, 1, 2, 2);
        addAll(10, -1);
        Check.due("digest()", new WashLine().digest(), h);
    }

    @Says(promise = 49, value = "count() 0 to 5; of each SORT grows(), of THINGS 0 to 7 least and most; indoors(); "
        + "five PRICES; of each MONDAY told() 0 to 9; of each HAPPENING event() 0 to 3")
    static void digestOfFullObject() {
        WashLine w = Check.world("k1k2k3k4k5k-w0t0:1-2w5t7:8-9i0i1i2i3i4i5i6i7c98765");
        for (int m = 0; m < 12; m++) {
            Check.monday(w, m % 2, m % 10, 40, 0, 0, 0, 0, 0, 0, m);
        }
        for (int e = 0; e < 16; e++) {
            w.happen(e % 12, 6, e % 8, (e + 1) % 8);
        }
        h = 17;
        add(6, 12, 16, 0, 1, 1);
        for (int s = 0; s < 6; s++) {
            add(s < 5 ? s + 1 : NONE);
            for (int x = 0; x < 8; x++) {
                boolean first = s == 0 && x == 0;
                boolean last = s == 5 && x == 7;
                add(first ? 1 : last ? 8 : 0, first ? 2 : last ? 9 : 0);
            }
        }
        add(255);
        add(9, 8, 7, 6, 5);
        for (int m = 0; m < 12; m++) {
            add(m % 2, m % 10, 40, 0, 0, 0, 0, 0, 0, m);
        }
        for (int e = 0; e < 16; e++) {
            add(6, e % 12, e % 8, (e + 1) % 8);
        }
        addAll(5, -1);
        add(8, 40, 0, 0, 0, 0, 0, 0, 11);
        addAll(3, -1);
        String world = "k1k2k3k4k5k-w0t0:1-2w5t7:8-9i0i1i2i3i4i5i6i7c98765";
        add(world.length());
        for (int i = 0; i < world.length(); i++) {
            add(world.charAt(i));
        }
        Check.due("digest()", w.digest(), h);
    }

    @Says(promise = 49, value = "of each ROW its size (-1: missing) and places, of each TEXT likewise.")
    static void digestOfRowsAndTexts() {
        WashLine w = new WashLine();
        w.row(0, 0);
        w.row(1, 40);
        w.lay(1, 0, BIG);
        w.lay(1, 39, SMALL);
        w.row(3, 1);
        w.tear(3);
        w.row(5, 2);
        w.text(0, 0);
        w.text(1, 120);
        w.put(1, 0, -128);
        w.put(1, 119, 127);
        w.text(3, 1);
        w.put(3, 0, 255);
        h = 17;
        add(0, 0, 0, 0, 3, 3);
        add(0);
        add(3, 3, 1, 2, 2);
        add(0);
        add(40, BIG);
        addAll(38, 0);
        add(SMALL);
        add(-1, -1, -1);
        add(2, 0, 0);
        add(0);
        add(120, -128);
        addAll(118, 32);
        add(127);
        add(-1);
        add(1, -1);
        Check.due("digest()", w.digest(), h);
    }

    @Says(promise = 49, value = "(of a call that tells by asked(): what it tells, not the 1 that it answers; asked() stays)")
    static void digestLeavesAsked() {
        WashLine w = some();
        w.at(0, 1);
        w.share(1, 0, 1);
        w.at(1, 0);
        long first = w.digest();
        Check.due("asked()", w.asked(), 70);
        Check.due("finding()", w.finding(), NOTHING);
        Check.due("findings(1)", w.findings(NOTHING), 1);
        Check.due("digest() again", w.digest(), first);
        WashLine one = Check.world("k-");
        Check.monday(one, 0, 0);
        h = 17;
        add(1, 1, 0, 0, 1, 1);
        add(NONE);
        addAll(16, 0);
        add(0, 3, 3, 1, 2, 2);
        addAll(10, 0);
        addAll(5, -1);
        add(8);
        addAll(8, 0);
        addAll(3, -1);
        add(2, 'k', '-');
        Check.due("a MONDAY of nothing", one.digest(), h);
    }
}

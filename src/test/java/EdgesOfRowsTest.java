/** ROWS and TEXTS, promises 1 to 9: their boundary cases, sentence by sentence. */
public final class EdgesOfRowsTest {
    private static final int BAD = WashLine.BAD;
    private static final int NOTHING = 1, BEYOND = 2, NOUGHT = 4, SIZE = 5;
    private static final int BIG = Integer.MAX_VALUE, SMALL = Integer.MIN_VALUE;
    private static final int[] NO_ROWS = {-1, 6, BIG, SMALL};
    private static final int[] NO_TEXTS = {-1, 4, BIG, SMALL};

    public static void main(String[] args) {
        Edges.run(EdgesOfRowsTest.class);
    }

    // ---- the terms

    @Says("ROWS 0 .. 5 are rows")
    static void sixRows() {
        WashLine w = new WashLine();
        for (int r = 0; r < 6; r++) {
            Check.due("row(" + r + ", 1)", w.row(r, 1), 1);
            w.lay(r, 0, 100 + r);
        }
        for (int r = 0; r < 6; r++) {
            Check.due(w, "at(" + r + ", 0)", w.at(r, 0), 1, 100 + r);
        }
        Check.refused(w, "row(-1, 1)", BAD, () -> w.row(-1, 1));
        Check.refused(w, "row(6, 1)", BAD, () -> w.row(6, 1));
        Check.due("count(4)", w.count(4), 6);
    }

    @Says("rows of 0 to 40 ints")
    static void rowsOfNoneToForty() {
        WashLine w = new WashLine();
        Check.due("row(0, 0)", w.row(0, 0), 0);
        Check.due("count(4)", w.count(4), 1);
        Check.due("row(1, 40)", w.row(1, 40), 40);
        Check.due(w, "lay(1, 39, SMALL)", w.lay(1, 39, SMALL), 1, 0);
        Check.due(w, "lay(1, 39, BIG)", w.lay(1, 39, BIG), 1, SMALL);
        Check.due(w, "at(1, 39)", w.at(1, 39), 1, BIG);
        Check.refused(w, "row(2, 41)", BAD, () -> w.row(2, 41));
    }

    @Says("TEXTS 0 .. 3")
    static void fourTexts() {
        WashLine w = new WashLine();
        for (int t = 0; t < 4; t++) {
            Check.due("text(" + t + ", 1)", w.text(t, 1), 1);
            w.put(t, 0, 100 + t);
        }
        for (int t = 0; t < 4; t++) {
            Check.due("put(" + t + ", 0, 0)", w.put(t, 0, 0), 1100 + t);
        }
        Check.refused(w, "text(-1, 1)", BAD, () -> w.text(-1, 1));
        Check.refused(w, "text(4, 1)", BAD, () -> w.text(4, 1));
        Check.due("count(5)", w.count(5), 4);
    }

    @Says("rows of 0 to 120 bytes")
    static void textsOfNoneToHundredAndTwenty() {
        WashLine w = new WashLine();
        Check.due("text(0, 0)", w.text(0, 0), 0);
        Check.due("count(5)", w.count(5), 1);
        Check.due("text(1, 120)", w.text(1, 120), 120);
        Check.due("put(1, 119, -128)", w.put(1, 119, -128), 1032);
        Check.due("put(1, 119, 127)", w.put(1, 119, 127), 872);
        Check.due("put(1, 119, 0)", w.put(1, 119, 0), 1127);
        Check.refused(w, "text(2, 121)", BAD, () -> w.text(2, 121));
    }

    @Says("or missing (at first)")
    static void missingAtFirst() {
        WashLine w = new WashLine();
        for (int r = 0; r < 6; r++) {
            int row = r;
            Check.finds(w, "at(" + r + ", 0)", NOTHING, () -> w.at(row, 0));
        }
        for (int t = 0; t < 4; t++) {
            int text = t;
            Check.finds(w, "put(" + t + ", 0, 1)", NOTHING, () -> w.put(text, 0, 1));
        }
    }

    // ---- promise 1

    @Says(promise = 1, value = "No ROWS, TEXTS, SORTS, MONDAYS, HAPPENINGS")
    static void newObjectIsEmpty() {
        WashLine w = new WashLine();
        for (int what = 0; what < 6; what++) {
            Check.due("count(" + what + ")", w.count(what), 0);
        }
        Check.refused(w, "grows(0)", BAD, () -> w.grows(0));
        Check.refused(w, "told(0, 0)", BAD, () -> w.told(0, 0));
        Check.refused(w, "event(0, 0)", BAD, () -> w.event(0, 0));
        Check.finds(w, "mean(0)", NOTHING, () -> w.mean(0));
        Check.finds(w, "fault(0)", NOTHING, () -> w.fault(0));
        Check.due("indoors()", w.indoors(), 0);
    }

    @Says(promise = 1, value = "PRICES 3, 3, 1, 2, 2")
    static void newObjectHasPrices() {
        int[] due = {3, 3, 1, 2, 2};
        WashLine w = new WashLine();
        for (int which = 0; which < 5; which++) {
            Check.due("price(" + which + ", NONE)", w.price(which, WashLine.NONE), due[which]);
        }
    }

    // ---- promise 2: row

    @Says(promise = 2, value = "A ROW is there with n ints 0: n.")
    static void rowAnew() {
        WashLine w = new WashLine();
        Check.due("row(3, 0)", w.row(3, 0), 0);
        Check.due("row(3, 40)", w.row(3, 40), 40);
        for (int i = 0; i < 40; i++) {
            w.lay(3, i, 7);
        }
        Check.due("row(3, 2) anew", w.row(3, 2), 2);
        Check.holdsRow(w, "row(3, 2) anew", 3, 0, 0);
        Check.finds(w, "at(3, 2)", BEYOND, () -> w.at(3, 2));
        Check.due("row(3, 40) anew", w.row(3, 40), 40);
        Check.holdsRow(w, "row(3, 40) anew", 3, new int[40]);
        Check.due("row(3, 0) anew", w.row(3, 0), 0);
        Check.finds(w, "at(3, 0)", BEYOND, () -> w.at(3, 0));
        Check.due("count(4)", w.count(4), 1);
    }

    @Says(promise = 2, value = "BAD")
    static void rowBad() {
        WashLine w = new WashLine();
        for (int r : NO_ROWS) {
            Check.refused(w, "row(" + r + ", 0)", BAD, () -> w.row(r, 0));
            Check.refused(w, "row(" + r + ", -1), BAD ahead of SIZE", BAD, () -> w.row(r, -1));
        }
    }

    @Says(promise = 2, value = "also n above 40")
    static void rowTooLarge() {
        WashLine w = new WashLine();
        Check.row(w, 0, 5, 6);
        Check.refused(w, "row(0, 41)", BAD, () -> w.row(0, 41));
        Check.refused(w, "row(0, BIG)", BAD, () -> w.row(0, BIG));
        Check.refused(w, "row(1, 41)", BAD, () -> w.row(1, 41));
        Check.holdsRow(w, "row(0, 41)", 0, 5, 6);
    }

    @Says(promise = 2, value = "SIZE: below 0.")
    static void rowTooSmall() {
        WashLine w = new WashLine();
        Check.row(w, 0, 5, 6);
        Check.finds(w, "row(0, -1)", SIZE, () -> w.row(0, -1));
        Check.finds(w, "row(0, SMALL)", SIZE, () -> w.row(0, SMALL));
        Check.finds(w, "row(1, -1)", SIZE, () -> w.row(1, -1));
        Check.holdsRow(w, "row(0, -1)", 0, 5, 6);
    }

    // ---- promise 3: lay

    @Says(promise = 3, value = "Place i of a ROW is v: what it was, told by asked(): 1.")
    static void layFirstAndLast() {
        WashLine w = new WashLine();
        Check.row(w, 2, 5, 6, 7);
        Check.due(w, "lay(2, 0, BIG)", w.lay(2, 0, BIG), 1, 5);
        Check.due(w, "lay(2, 0, SMALL)", w.lay(2, 0, SMALL), 1, BIG);
        Check.due(w, "lay(2, 2, -1)", w.lay(2, 2, -1), 1, 7);
        Check.due(w, "lay(2, 2, -1)", w.lay(2, 2, -1), 1, -1);
        Check.holdsRow(w, "lay", 2, SMALL, 6, -1);
    }

    @Says(promise = 3, value = "BAD")
    static void layBad() {
        WashLine w = new WashLine();
        w.row(0, 1);
        w.row(5, 1);
        for (int r : NO_ROWS) {
            Check.refused(w, "lay(" + r + ", 0, 1)", BAD, () -> w.lay(r, 0, 1));
            Check.refused(w, "lay(" + r + ", -1, 1), BAD ahead of BEYOND", BAD, () -> w.lay(r, -1, 1));
        }
    }

    @Says(promise = 3, value = "NOTHING")
    static void layInMissing() {
        WashLine w = new WashLine();
        Check.finds(w, "lay(0, 0, 1)", NOTHING, () -> w.lay(0, 0, 1));
        Check.finds(w, "lay(0, -1, 1), NOTHING ahead of BEYOND", NOTHING, () -> w.lay(0, -1, 1));
        w.row(0, 1);
        w.tear(0);
        Check.finds(w, "lay(0, 0, 1) in a torn one", NOTHING, () -> w.lay(0, 0, 1));
    }

    @Says(promise = 3, value = "BEYOND.")
    static void layBeyond() {
        WashLine w = new WashLine();
        Check.row(w, 0, 5, 6);
        for (int i : new int[] {-1, 2, 39, BIG, SMALL}) {
            Check.finds(w, "lay(0, " + i + ", 1)", BEYOND, () -> w.lay(0, i, 1));
        }
        w.row(1, 0);
        Check.finds(w, "lay(1, 0, 1) in an empty one", BEYOND, () -> w.lay(1, 0, 1));
        w.row(2, 40);
        Check.finds(w, "lay(2, 40, 1) in a full one", BEYOND, () -> w.lay(2, 40, 1));
    }

    // ---- promise 4: at

    @Says(promise = 4, value = "Place i of a ROW, told by asked(): 1.")
    static void atFirstAndLast() {
        WashLine w = new WashLine();
        Check.row(w, 5, SMALL, 6, BIG);
        Check.due(w, "at(5, 2)", w.at(5, 2), 1, BIG);
        Check.due(w, "at(5, 0)", w.at(5, 0), 1, SMALL);
        Check.due(w, "at(5, 0) again", w.at(5, 0), 1, SMALL);
    }

    @Says(promise = 4, value = "BAD")
    static void atBad() {
        WashLine w = new WashLine();
        w.row(0, 1);
        w.row(5, 1);
        for (int r : NO_ROWS) {
            Check.refused(w, "at(" + r + ", 0)", BAD, () -> w.at(r, 0));
            Check.refused(w, "at(" + r + ", -1), BAD ahead of BEYOND", BAD, () -> w.at(r, -1));
        }
    }

    @Says(promise = 4, value = "NOTHING")
    static void atInMissing() {
        WashLine w = new WashLine();
        Check.finds(w, "at(0, 0)", NOTHING, () -> w.at(0, 0));
        Check.finds(w, "at(0, 40), NOTHING ahead of BEYOND", NOTHING, () -> w.at(0, 40));
        w.row(0, 1);
        w.tear(0);
        Check.finds(w, "at(0, 0) of a torn one", NOTHING, () -> w.at(0, 0));
    }

    @Says(promise = 4, value = "BEYOND.")
    static void atBeyond() {
        WashLine w = new WashLine();
        Check.row(w, 0, 5, 6);
        for (int i : new int[] {-1, 2, 39, BIG, SMALL}) {
            Check.finds(w, "at(0, " + i + ")", BEYOND, () -> w.at(0, i));
        }
        w.row(1, 0);
        Check.finds(w, "at(1, 0) of an empty one", BEYOND, () -> w.at(1, 0));
        w.row(2, 40);
        Check.finds(w, "at(2, 40) of a full one", BEYOND, () -> w.at(2, 40));
    }

    // ---- promise 5: tear

    @Says(promise = 5, value = "A ROW is missing: 1.")
    static void tearAll() {
        WashLine w = new WashLine();
        w.row(0, 0);
        w.row(1, 40);
        w.row(5, 1);
        Check.due("tear(0), an empty one", w.tear(0), 1);
        Check.due("tear(5)", w.tear(5), 1);
        Check.due("count(4)", w.count(4), 1);
        Check.finds(w, "at(5, 0)", NOTHING, () -> w.at(5, 0));
        Check.due("tear(1), a full one", w.tear(1), 1);
        Check.due("count(4)", w.count(4), 0);
        Check.due("row(5, 1) anew", w.row(5, 1), 1);
        Check.holdsRow(w, "row(5, 1) anew", 5, 0);
    }

    @Says(promise = 5, value = "BAD")
    static void tearBad() {
        WashLine w = new WashLine();
        w.row(0, 1);
        w.row(5, 1);
        for (int r : NO_ROWS) {
            Check.refused(w, "tear(" + r + ")", BAD, () -> w.tear(r));
        }
    }

    @Says(promise = 5, value = "NOTHING.")
    static void tearMissing() {
        WashLine w = new WashLine();
        w.row(1, 1);
        Check.finds(w, "tear(0)", NOTHING, () -> w.tear(0));
        w.tear(1);
        Check.finds(w, "tear(1), a second time", NOTHING, () -> w.tear(1));
    }

    // ---- promise 6: copy

    @Says(promise = 6, value = "n places of a ROW, from one on, come to those of another one")
    static void copyToAnother() {
        WashLine w = new WashLine();
        Check.row(w, 0, 10, 11, 12, 13);
        Check.row(w, 1, 20, 21, 22);
        Check.due("copy of one, the last to the first", w.copy(0, 3, 1, 0, 1), 1);
        Check.holdsRow(w, "copy of one", 1, 13, 21, 22);
        Check.due("copy of one, the first to the last", w.copy(0, 0, 1, 2, 1), 1);
        Check.holdsRow(w, "copy of one", 1, 13, 21, 10);
        Check.due("copy of a whole one", w.copy(1, 0, 0, 1, 3), 1);
        Check.holdsRow(w, "copy of a whole one", 0, 10, 13, 21, 10);
        Check.due("copy to a whole one", w.copy(0, 1, 1, 0, 3), 1);
        Check.holdsRow(w, "copy to a whole one", 1, 13, 21, 10);
        w.row(2, 40);
        w.row(3, 40);
        w.lay(2, 39, 9);
        w.lay(2, 0, 8);
        Check.due("copy of forty", w.copy(2, 0, 3, 0, 40), 1);
        Check.due(w, "copy of forty, at(3, 0)", w.at(3, 0), 1, 8);
        Check.due(w, "copy of forty, at(3, 39)", w.at(3, 39), 1, 9);
    }

    @Says(promise = 6, value = "(perhaps itself) from one on, as if taken ahead: 1.")
    static void copyToItself() {
        WashLine w = new WashLine();
        Check.row(w, 0, 10, 11, 12, 13, 14);
        Check.due("copy up", w.copy(0, 0, 0, 1, 4), 1);
        Check.holdsRow(w, "copy up", 0, 10, 10, 11, 12, 13);
        Check.due("copy down", w.copy(0, 1, 0, 0, 4), 1);
        Check.holdsRow(w, "copy down", 0, 10, 11, 12, 13, 13);
        Check.due("copy to where it is", w.copy(0, 0, 0, 0, 5), 1);
        Check.holdsRow(w, "copy to where it is", 0, 10, 11, 12, 13, 13);
    }

    @Says(promise = 6, value = "BAD")
    static void copyBad() {
        WashLine w = new WashLine();
        w.row(0, 1);
        w.row(5, 1);
        for (int r : NO_ROWS) {
            Check.refused(w, "copy from " + r, BAD, () -> w.copy(r, 0, 0, 0, 1));
            Check.refused(w, "copy to " + r, BAD, () -> w.copy(0, 0, r, 0, 1));
        }
    }

    @Says(promise = 6, value = "SIZE: n below 0")
    static void copyOfFewerThanNone() {
        WashLine w = new WashLine();
        Check.row(w, 0, 1, 2);
        Check.row(w, 1, 3, 4);
        Check.finds(w, "copy of -1", SIZE, () -> w.copy(0, 1, 1, 1, -1));
        Check.finds(w, "copy of SMALL", SIZE, () -> w.copy(0, 1, 1, 1, SMALL));
    }

    @Says(promise = 6, value = "NOTHING: either")
    static void copyOfMissing() {
        WashLine w = new WashLine();
        w.row(0, 2);
        Check.finds(w, "copy from a missing one", NOTHING, () -> w.copy(1, 0, 0, 0, 0));
        Check.finds(w, "copy to a missing one", NOTHING, () -> w.copy(0, 0, 1, 0, 0));
        Check.finds(w, "copy from a missing one to itself", NOTHING, () -> w.copy(1, 0, 1, 0, 0));
        Check.finds(w, "copy from a missing one to another", NOTHING, () -> w.copy(1, 0, 2, 0, 1));
    }

    @Says(promise = 6, value = "BEYOND: not so many there")
    static void copyBeyond() {
        WashLine w = new WashLine();
        Check.row(w, 0, 1, 2, 3, 4, 5);
        Check.row(w, 1, 6, 7, 8);
        int[][] many = {
            {0, 3, 1, 0, 3}, {0, 0, 1, 1, 3}, {0, 0, 1, 0, 4}, {0, 0, 0, 0, 6}, {0, 5, 1, 0, 1}, {0, 0, 1, 3, 1},
            {0, -1, 1, 0, 2}, {0, 0, 1, -1, 2}, {0, 0, 0, 0, BIG}, {0, 1, 1, 1, BIG}, {0, BIG, 1, 0, 1},
            {0, 0, 1, BIG, 1}, {0, BIG, 1, BIG, BIG}, {0, SMALL, 1, 0, 1}, {0, 0, 1, SMALL, 1}, {0, SMALL, 1, 0, BIG}
        };
        for (int[] c : many) {
            String name = "copy(" + c[0] + ", " + c[1] + ", " + c[2] + ", " + c[3] + ", " + c[4] + ")";
            Check.finds(w, name, BEYOND, () -> w.copy(c[0], c[1], c[2], c[3], c[4]));
        }
    }

    @Says(promise = 6, value = "(with n 0, too, if i or j is below 0 or above the size)")
    static void copyOfNoneBeyond() {
        WashLine w = new WashLine();
        Check.row(w, 0, 1, 2, 3, 4, 5);
        Check.row(w, 1, 6, 7, 8);
        w.row(2, 0);
        Check.finds(w, "none from -1", BEYOND, () -> w.copy(0, -1, 1, 0, 0));
        Check.finds(w, "none to -1", BEYOND, () -> w.copy(0, 0, 1, -1, 0));
        Check.finds(w, "none from above the size", BEYOND, () -> w.copy(0, 6, 1, 0, 0));
        Check.finds(w, "none to above the size", BEYOND, () -> w.copy(0, 0, 1, 4, 0));
        Check.finds(w, "none from BIG", BEYOND, () -> w.copy(0, BIG, 1, 0, 0));
        Check.finds(w, "none to SMALL", BEYOND, () -> w.copy(0, 0, 1, SMALL, 0));
        Check.finds(w, "none from above an empty one", BEYOND, () -> w.copy(2, 1, 1, 0, 0));
        Check.finds(w, "none to below an empty one", BEYOND, () -> w.copy(0, 0, 2, -1, 0));
        long before = w.digest();
        Check.due("none from the size to the size", w.copy(0, 5, 1, 3, 0), 1);
        Check.due("none from an empty one to itself", w.copy(2, 0, 2, 0, 0), 1);
        Check.due("none from the middle", w.copy(0, 2, 1, 1, 0), 1);
        Check.due("digest()", w.digest(), before);
    }

    @Says(promise = 6, value = "(In this order.)")
    static void copyInOrder() {
        WashLine w = new WashLine();
        w.row(0, 2);
        Check.refused(w, "BAD ahead of SIZE", BAD, () -> w.copy(6, 0, 0, 0, -1));
        Check.refused(w, "BAD ahead of SIZE, to", BAD, () -> w.copy(0, 0, -1, 0, -1));
        Check.refused(w, "BAD ahead of NOTHING", BAD, () -> w.copy(1, 0, 6, 0, 0));
        Check.refused(w, "BAD ahead of BEYOND", BAD, () -> w.copy(0, -1, 6, 0, 0));
        Check.finds(w, "SIZE ahead of NOTHING", SIZE, () -> w.copy(1, 0, 0, 0, -1));
        Check.finds(w, "SIZE ahead of BEYOND", SIZE, () -> w.copy(0, -1, 0, 9, -1));
        Check.finds(w, "NOTHING ahead of BEYOND, from", NOTHING, () -> w.copy(1, 0, 0, 9, 3));
        Check.finds(w, "NOTHING ahead of BEYOND, to", NOTHING, () -> w.copy(0, -1, 1, 0, 3));
    }

    // ---- promise 7: mean

    @Says(promise = 7, value = "The mean of a ROW's ints, cut, told by asked(): 1.")
    static void meanCut() {
        int[][] rows = {
            {7}, {-7}, {7, 0}, {-7, 0}, {2, 0, 0}, {-2, 0, 0}, {5, 0, 0}, {-5, 0, 0}, {1, -1}, {SMALL}, {BIG}, {BIG, SMALL}
        };
        int[] due = {7, -7, 3, -3, 0, 0, 1, -1, 0, SMALL, BIG, 0};
        for (int k = 0; k < rows.length; k++) {
            WashLine w = new WashLine();
            Check.row(w, k % 6, rows[k]);
            Check.due(w, "mean of " + java.util.Arrays.toString(rows[k]), w.mean(k % 6), 1, due[k]);
        }
    }

    @Says(promise = 7, value = "The mean of a ROW's ints")
    static void meanOfFortyDoesNotWrapAround() {
        WashLine w = new WashLine();
        w.row(0, 40);
        w.row(1, 40);
        for (int i = 0; i < 40; i++) {
            w.lay(0, i, BIG);
            w.lay(1, i, SMALL);
        }
        Check.due(w, "mean of forty BIG", w.mean(0), 1, BIG);
        Check.due(w, "mean of forty SMALL", w.mean(1), 1, SMALL);
        w.lay(1, 39, BIG);
        // 39 times -2147483648 and once 2147483647, by 40.
        Check.due(w, "mean of 39 SMALL and BIG", w.mean(1), 1, -2040109465);
    }

    @Says(promise = 7, value = "BAD")
    static void meanBad() {
        WashLine w = new WashLine();
        w.row(0, 1);
        w.row(5, 1);
        for (int r : NO_ROWS) {
            Check.refused(w, "mean(" + r + ")", BAD, () -> w.mean(r));
        }
    }

    @Says(promise = 7, value = "NOTHING")
    static void meanOfMissing() {
        WashLine w = new WashLine();
        Check.finds(w, "mean(0)", NOTHING, () -> w.mean(0));
        w.row(0, 0);
        w.tear(0);
        Check.finds(w, "mean(0) of a torn one", NOTHING, () -> w.mean(0));
    }

    @Says(promise = 7, value = "NOUGHT.")
    static void meanOfNone() {
        WashLine w = new WashLine();
        w.row(1, 0);
        Check.finds(w, "mean(1)", NOUGHT, () -> w.mean(1));
        Check.row(w, 1, 9);
        w.row(1, 0);
        Check.finds(w, "mean(1) anew", NOUGHT, () -> w.mean(1));
    }

    // ---- promise 8: text

    @Says(promise = 8, value = "A TEXT is there with n blanks: n.")
    static void textAnew() {
        WashLine w = new WashLine();
        Check.due("text(2, 0)", w.text(2, 0), 0);
        Check.due("text(2, 120)", w.text(2, 120), 120);
        for (int i = 0; i < 120; i++) {
            w.put(2, i, 7);
        }
        Check.due("text(2, 1) anew", w.text(2, 1), 1);
        Check.due("put(2, 0, 9)", w.put(2, 0, 9), 1032);
        Check.finds(w, "put(2, 1, 9)", BEYOND, () -> w.put(2, 1, 9));
        Check.due("text(2, 120) anew", w.text(2, 120), 120);
        for (int i = 0; i < 120; i++) {
            Check.due("put(2, " + i + ", 9)", w.put(2, i, 9), 1032);
        }
        Check.due("text(2, 0) anew", w.text(2, 0), 0);
        Check.finds(w, "put(2, 0, 9)", BEYOND, () -> w.put(2, 0, 9));
        Check.due("count(5)", w.count(5), 1);
    }

    @Says(promise = 8, value = "BAD")
    static void textBad() {
        WashLine w = new WashLine();
        for (int t : NO_TEXTS) {
            Check.refused(w, "text(" + t + ", 0)", BAD, () -> w.text(t, 0));
            Check.refused(w, "text(" + t + ", -1), BAD ahead of SIZE", BAD, () -> w.text(t, -1));
        }
    }

    @Says(promise = 8, value = "also n above 120")
    static void textTooLarge() {
        WashLine w = new WashLine();
        Check.lay(w, 0, "k-");
        Check.refused(w, "text(0, 121)", BAD, () -> w.text(0, 121));
        Check.refused(w, "text(0, BIG)", BAD, () -> w.text(0, BIG));
        Check.refused(w, "text(1, 121)", BAD, () -> w.text(1, 121));
        Check.due("world(0)", w.world(0), 1);
    }

    @Says(promise = 8, value = "SIZE: below 0.")
    static void textTooSmall() {
        WashLine w = new WashLine();
        Check.lay(w, 0, "k-");
        Check.finds(w, "text(0, -1)", SIZE, () -> w.text(0, -1));
        Check.finds(w, "text(0, SMALL)", SIZE, () -> w.text(0, SMALL));
        Check.finds(w, "text(1, -1)", SIZE, () -> w.text(1, -1));
        Check.due("world(0)", w.world(0), 1);
    }

    // ---- promise 9: put

    @Says(promise = 9, value = "Byte i of a TEXT is v, cut to a byte (-128 .. 127)")
    static void putCut() {
        int[] v = {-128, 127, 128, 255, 256, -129, -256, -1, 363, 1 << 16, BIG, SMALL};
        int[] due = {-128, 127, -128, -1, 0, 127, 0, -1, 107, 0, -1, 0};
        WashLine w = new WashLine();
        w.text(1, 2);
        for (int k = 0; k < v.length; k++) {
            w.put(1, 1, v[k]);
            Check.due("behind put(1, 1, " + v[k] + ")", w.put(1, 1, 5), 1000 + due[k]);
        }
        Check.due("the place ahead of it", w.put(1, 0, 5), 1032);
        w.put(1, 0, 'k' + 256);
        w.put(1, 1, '-' - 256);
        Check.due("world(1) of cut bytes", w.world(1), 1);
    }

    @Says(promise = 9, value = "what it was, and 1000 more")
    static void putFirstAndLast() {
        WashLine w = new WashLine();
        w.text(0, 120);
        Check.due("put(0, 0, -128)", w.put(0, 0, -128), 1032);
        Check.due("put(0, 0, 127)", w.put(0, 0, 127), 872);
        Check.due("put(0, 0, 0)", w.put(0, 0, 0), 1127);
        Check.due("put(0, 119, -1)", w.put(0, 119, -1), 1032);
        Check.due("put(0, 119, -1)", w.put(0, 119, -1), 999);
        Check.due("put(0, 118, 0)", w.put(0, 118, 0), 1032);
        Check.due("asked() stays", w.asked(), 0);
    }

    @Says(promise = 9, value = "BAD")
    static void putBad() {
        WashLine w = new WashLine();
        w.text(0, 1);
        w.text(3, 1);
        for (int t : NO_TEXTS) {
            Check.refused(w, "put(" + t + ", 0, 1)", BAD, () -> w.put(t, 0, 1));
            Check.refused(w, "put(" + t + ", -1, 1), BAD ahead of BEYOND", BAD, () -> w.put(t, -1, 1));
        }
    }

    @Says(promise = 9, value = "NOTHING")
    static void putInMissing() {
        WashLine w = new WashLine();
        Check.finds(w, "put(0, 0, 1)", NOTHING, () -> w.put(0, 0, 1));
        Check.finds(w, "put(0, -1, 1), NOTHING ahead of BEYOND", NOTHING, () -> w.put(0, -1, 1));
    }

    @Says(promise = 9, value = "BEYOND.")
    static void putBeyond() {
        WashLine w = new WashLine();
        w.text(0, 2);
        for (int i : new int[] {-1, 2, 119, BIG, SMALL}) {
            Check.finds(w, "put(0, " + i + ", 1)", BEYOND, () -> w.put(0, i, 1));
        }
        w.text(1, 0);
        Check.finds(w, "put(1, 0, 1) in an empty one", BEYOND, () -> w.put(1, 0, 1));
        w.text(2, 120);
        Check.finds(w, "put(2, 120, 1) in a full one", BEYOND, () -> w.put(2, 120, 1));
    }
}

/** Promises 1 to 9: a new object, ROWS, TEXTS. */
public final class RowsTest {
    private static final int BIG = Integer.MAX_VALUE, SMALL = Integer.MIN_VALUE;

    public static void main(String[] args) {
        newObject();
        row();
        lay();
        at();
        tear();
        copy();
        copyRefused();
        mean();
        text();
        put();
        Check.end();
    }

    private static void newObject() {
        WashLine w = new WashLine();
        for (int what = 0; what < 6; what++) {
            Check.due("1 count(" + what + ")", w.count(what), 0);
        }
        int[] prices = {3, 3, 1, 2, 2};
        for (int which = 0; which < 5; which++) {
            Check.due("1 price(" + which + ")", w.price(which, WashLine.NONE), prices[which]);
        }
        Check.due("1 asked", w.asked(), 0);
        Check.due("1 tales", w.tales(), 0);
        Check.due("1 upper", w.upper(), 0);
        Check.due("1 lower", w.lower(), 1);
        Check.due("1 finding", w.finding(), 0);
        for (int f = 1; f <= 5; f++) {
            Check.due("1 findings(" + f + ")", w.findings(f), 0);
        }
        Check.due("1 indoors", w.indoors(), 0);
    }

    private static void row() {
        WashLine w = new WashLine();
        Check.due("2 row", w.row(0, 40), 40);
        Check.due("2 row", w.row(5, 0), 0);
        Check.due("2 count", w.count(4), 2);
        w.lay(0, 7, 9);
        w.lay(0, 39, 8);
        Check.due("2 row again", w.row(0, 8), 8);
        for (int i = 0; i < 8; i++) {
            Check.due(w, "2 at(0, " + i + ")", w.at(0, i), 1, 0);
        }
        Check.finds(w, "2 at(0, 8)", 0, w.at(0, 8), 2);
        w.row(0, 40);
        Check.due(w, "2 at(0, 39)", w.at(0, 39), 1, 0);
        Check.due("2 row(-1)", w.row(-1, 1), -1);
        Check.due("2 row(6)", w.row(6, 1), -1);
        Check.due("2 row(6, -1)", w.row(6, -1), -1);
        Check.due("2 row(0, 41)", w.row(0, 41), -1);
        Check.due("2 row(0, BIG)", w.row(0, BIG), -1);
        Check.finds(w, "2 row(0, -1)", 0, w.row(0, -1), 5);
        Check.finds(w, "2 row(0, SMALL)", 1, w.row(0, SMALL), 5);
        Check.due("2 row stays", w.at(0, 39), 1);
    }

    private static void lay() {
        WashLine w = new WashLine();
        Check.finds(w, "3 lay", 0, w.lay(2, 9, 1), 1);
        w.row(2, 3);
        Check.due(w, "3 lay", w.lay(2, 2, -7), 1, 0);
        Check.due(w, "3 lay", w.lay(2, 2, BIG), 1, -7);
        Check.due(w, "3 lay", w.lay(2, 2, SMALL), 1, BIG);
        Check.due(w, "3 at", w.at(2, 2), 1, SMALL);
        Check.due(w, "3 lay(-1)", w.lay(-1, 0, 1), -1, SMALL);
        Check.due(w, "3 lay(6)", w.lay(6, 0, 1), -1, SMALL);
        Check.finds(w, "3 lay(2, 3)", 0, w.lay(2, 3, 1), 2);
        Check.finds(w, "3 lay(2, -1)", 1, w.lay(2, -1, 1), 2);
        Check.due("3 asked stays", w.asked(), SMALL);
    }

    private static void at() {
        WashLine w = new WashLine();
        Check.finds(w, "4 at", 0, w.at(0, -1), 1);
        w.row(0, 2);
        w.lay(0, 1, 77);
        w.lay(0, 0, 66);
        Check.due(w, "4 at", w.at(0, 1), 1, 77);
        Check.due(w, "4 at", w.at(0, 0), 1, 66);
        Check.due(w, "4 at(6)", w.at(6, 0), -1, 66);
        Check.due(w, "4 at(-1)", w.at(-1, 0), -1, 66);
        Check.finds(w, "4 at(0, 2)", 0, w.at(0, 2), 2);
        Check.finds(w, "4 at(0, -1)", 1, w.at(0, -1), 2);
        Check.finds(w, "4 at(1, 0)", 1, w.at(1, 0), 1);
    }

    private static void tear() {
        WashLine w = new WashLine();
        Check.finds(w, "5 tear", 0, w.tear(3), 1);
        w.row(3, 0);
        w.row(4, 1);
        Check.due("5 tear", w.tear(3), 1);
        Check.due("5 count", w.count(4), 1);
        Check.finds(w, "5 tear again", 1, w.tear(3), 1);
        Check.due("5 tear(6)", w.tear(6), -1);
        Check.due("5 tear(-1)", w.tear(-1), -1);
        Check.finds(w, "5 at", 2, w.at(3, 0), 1);
    }

    private static void holdsRow(WashLine w, String name, int r, int... places) {
        for (int i = 0; i < places.length; i++) {
            w.at(r, i);
            Check.due(name + " at(" + r + ", " + i + ")", w.asked(), places[i]);
        }
    }

    private static void copy() {
        WashLine w = new WashLine();
        w.row(0, 5);
        w.row(1, 3);
        for (int i = 0; i < 5; i++) {
            w.lay(0, i, 10 + i);
        }
        Check.due("6 copy", w.copy(0, 1, 1, 0, 3), 1);
        holdsRow(w, "6 copy", 1, 11, 12, 13);
        Check.due("6 copy on itself, up", w.copy(0, 0, 0, 1, 4), 1);
        holdsRow(w, "6 copy on itself, up", 0, 10, 10, 11, 12, 13);
        Check.due("6 copy on itself, down", w.copy(0, 2, 0, 0, 3), 1);
        holdsRow(w, "6 copy on itself, down", 0, 11, 12, 13, 12, 13);
        Check.due("6 copy of none", w.copy(0, 5, 1, 3, 0), 1);
        Check.due("6 copy of none", w.copy(0, 0, 1, 0, 0), 1);
        holdsRow(w, "6 copy of none", 1, 11, 12, 13);
        Check.due("6 copy of all", w.copy(1, 0, 0, 2, 3), 1);
        holdsRow(w, "6 copy of all", 0, 11, 12, 11, 12, 13);
    }

    private static void copyRefused() {
        WashLine w = new WashLine();
        w.row(0, 5);
        w.row(1, 3);
        Check.due("6 copy(-1)", w.copy(-1, 0, 0, 0, -1), -1);
        Check.due("6 copy(6)", w.copy(6, 0, 0, 0, 0), -1);
        Check.due("6 copy to -1", w.copy(0, 0, -1, 0, 0), -1);
        Check.due("6 copy to 6", w.copy(0, 0, 6, 0, 0), -1);
        Check.finds(w, "6 n below 0, rows missing", 0, w.copy(2, 0, 3, 0, -1), 5);
        Check.finds(w, "6 from missing", 0, w.copy(2, -1, 0, 0, 0), 1);
        Check.finds(w, "6 to missing", 1, w.copy(0, -1, 2, 0, 0), 1);
        Check.finds(w, "6 i below 0", 0, w.copy(0, -1, 1, 0, 0), 2);
        Check.finds(w, "6 j below 0", 1, w.copy(0, 0, 1, -1, 0), 2);
        Check.finds(w, "6 i above", 2, w.copy(0, 6, 1, 0, 0), 2);
        Check.finds(w, "6 j above", 3, w.copy(0, 0, 1, 4, 0), 2);
        Check.finds(w, "6 too many from", 4, w.copy(1, 1, 0, 0, 3), 2);
        Check.finds(w, "6 too many to", 5, w.copy(0, 0, 1, 0, 4), 2);
        Check.finds(w, "6 BIG n", 6, w.copy(0, 1, 1, 1, BIG), 2);
        Check.finds(w, "6 BIG i", 7, w.copy(0, BIG, 1, 0, 1), 2);
        Check.finds(w, "6 BIG j", 8, w.copy(0, 0, 1, BIG, 1), 2);
        Check.finds(w, "6 SMALL i", 9, w.copy(0, SMALL, 1, 0, 1), 2);
        Check.finds(w, "6 SMALL j", 10, w.copy(0, 0, 1, SMALL, 1), 2);
        Check.finds(w, "6 SMALL n", 1, w.copy(0, 0, 1, 0, SMALL), 5);
    }

    private static void mean() {
        WashLine w = new WashLine();
        Check.finds(w, "7 mean", 0, w.mean(0), 1);
        w.row(0, 0);
        Check.finds(w, "7 mean of none", 0, w.mean(0), 4);
        Check.due("7 mean(6)", w.mean(6), -1);
        Check.due("7 mean(-1)", w.mean(-1), -1);
        w.row(0, 2);
        w.lay(0, 0, 7);
        Check.due(w, "7 mean", w.mean(0), 1, 3);
        w.lay(0, 0, -7);
        Check.due(w, "7 mean cut", w.mean(0), 1, -3);
        w.lay(0, 0, BIG);
        w.lay(0, 1, BIG);
        Check.due(w, "7 mean of big ones", w.mean(0), 1, BIG);
        w.row(1, 40);
        for (int i = 0; i < 40; i++) {
            w.lay(1, i, SMALL);
        }
        Check.due(w, "7 mean of small ones", w.mean(1), 1, SMALL);
    }

    private static void text() {
        WashLine w = new WashLine();
        Check.due("8 text", w.text(0, 120), 120);
        Check.due("8 text", w.text(3, 0), 0);
        Check.due("8 count", w.count(5), 2);
        Check.due("8 put", w.put(0, 0, 50), 1032);
        Check.due("8 put", w.put(0, 119, 50), 1032);
        w.text(0, 120);
        Check.due("8 put anew", w.put(0, 0, 50), 1032);
        Check.due("8 put anew", w.put(0, 119, 50), 1032);
        Check.due("8 text(4)", w.text(4, -1), -1);
        Check.due("8 text(-1)", w.text(-1, 0), -1);
        Check.due("8 text(0, 121)", w.text(0, 121), -1);
        Check.finds(w, "8 text(0, -1)", 0, w.text(0, -1), 5);
        Check.due("8 text stays", w.put(0, 119, 50), 1050);
    }

    private static void put() {
        WashLine w = new WashLine();
        Check.finds(w, "9 put", 0, w.put(0, 0, 1), 1);
        w.text(0, 2);
        Check.due("9 put", w.put(0, 1, 127), 1032);
        Check.due("9 put", w.put(0, 1, 128), 1127);
        Check.due("9 put cut", w.put(0, 1, -129), 872);
        Check.due("9 put cut", w.put(0, 1, 255), 1127);
        Check.due("9 put cut", w.put(0, 1, 256), 999);
        Check.due("9 put cut", w.put(0, 1, SMALL), 1000);
        Check.due("9 put cut", w.put(0, 1, BIG), 1000);
        Check.due("9 put cut", w.put(0, 1, 0), 999);
        Check.due("9 put(4)", w.put(4, 0, 0), -1);
        Check.due("9 put(-1)", w.put(-1, 0, 0), -1);
        Check.finds(w, "9 put(0, 2)", 0, w.put(0, 2, 0), 2);
        Check.finds(w, "9 put(0, -1)", 1, w.put(0, -1, 0), 2);
        Check.due("9 asked stays", w.asked(), 0);
    }
}

/** Promises 39 to 41: DOUBTS, the HOUSEHOLD with the fewest, what is SEEN next. */
public final class DoubtsTest {
    public static void main(String[] args) {
        doubts();
        least();
        see();
        seeInWeather();
        seeMany();
        Check.end();
    }

    private static void doubts() {
        WashLine w = Check.world("k-k-w0t0:1-2w1t1:2-3i1");
        Check.due("39 no MONDAYS", w.doubts(11), 0);
        Check.monday(w, 0, 9, 4, 1, 1);
        Check.due("39 nobody", w.doubts(0), 6);
        Check.due("39 too much, too little, none", w.doubts(11), 2 + 1 + 1);
        Check.due("39 two", w.doubts(2), 2);
        Check.monday(w, 1, 0, 0, 1);
        Check.due("39 RAIN", w.doubts(11), 4 + 1);
        Check.monday(w, 0, 0, 0, 0, 0, 0, 0, 0, 0, 40);
        Check.due("39 the last THING", w.doubts(0), 6 + 1 + 40);
        Check.due("39 a HOUSEHOLD that there is not", w.doubts(6), -1);
        Check.due("39 a SORT that there is not", w.doubts(100), -1);
        Check.due("39 doubts(-1)", w.doubts(-1), -1);
        w.row(0, 1);
        w.at(0, 0);
        w.doubts(11);
        Check.due("39 asked stays", w.asked(), 0);
    }

    private static void least() {
        WashLine w = Check.world("k-k-w0t0:1-1w1t0:2-2");
        Check.due(w, "40 no MONDAYS", w.least(), 0, 0);
        Check.monday(w, 0, 0, 3);
        Check.due(w, "40 fewest people ahead of the least number", w.least(), 11, 0);
        Check.monday(w, 0, 0, 4);
        // 3 or 4: one off, of two people 11 and 20.
        Check.due(w, "40 the least number", w.least(), 11, 1);
        w.hung(0, 0, 4);
        Check.due(w, "40 least", w.least(), 20, 0);
        w.hung(0, 0, 40);
        w.hung(1, 0, 40);
        Check.due(w, "40 far off", w.least(), 50, 60);
        w.hung(0, 0, 0);
        w.hung(1, 0, 1);
        Check.due(w, "40 nobody", w.least(), 0, 1);
        w = Check.world("k-w0t0:1-1");
        Check.monday(w, 0, 0, 1);
        Check.due(w, "40 one", w.least(), 1, 0);
        w.hung(0, 0, 2);
        Check.due(w, "40 two", w.least(), 2, 0);
        w = new WashLine();
        Check.monday(w, 0, 0, 1, 2, 3);
        Check.due(w, "40 no SORT", w.least(), 0, 6);
        w = Check.world("k-k-w0t0:1-1w1t0:5-5");
        Check.monday(w, 0, 0, 5);
        Check.due(w, "40 one ahead of five", w.least(), 10, 0);
    }

    private static void see() {
        WashLine w = Check.world("k-k-k-w0t0:1-1w1t0:1-1w2t0:1-1w0t1:1-2w1t2:0-3w2t2:4-4w1t3:2-2c33199");
        Check.finds(w, "41 no MONDAYS", 0, w.see(0), 4);
        Check.due("41 weather 2", w.see(2), -1);
        Check.due("41 weather -1", w.see(-1), -1);
        Check.monday(w, 0, 2, 3, 0, 2);
        // One comes: 1, 10 or 100. THING 1 parts 1 from both, THING 2 100 from both, THING 3 10 from both.
        Check.due(w, "41 the first of alike ones", w.see(0), 1, 2);
        w.hung(0, 2, 1);
        // 100 hangs too much of THING 2: 1 and 10 are left.
        Check.due(w, "41 one pair", w.see(0), 1, 1);
        w = Check.world("k-k-w0t0:1-1w1t0:1-1w0t1:0-1w1t1:1-1w0t5:0-3w1t5:4-4w0t7:0-0w1t7:1-1c33199");
        Check.monday(w, 0, 4, 5);
        // 1 or 10: THING 1 doesn't part them (0 to 1, 1 to 1).
        Check.due(w, "41 the most of one below the least of the other", w.see(0), 5, 1);
        w = Check.world("k-w0t7:1-1");
        Check.monday(w, 0, 0, 0, 0, 0, 0, 0, 0, 0, 1);
        Check.monday(w, 0, 0);
        // The last MONDAY has nobody, or one that is ILL: THING 7 parts them.
        w.price(4, 9);
        w.price(1, 2);
        Check.due("27 plain", w.plain(), 5);
        Check.due(w, "41 of the last MONDAY alone", w.see(0), 7, 1);
        w.price(1, 3);
        Check.due("27 plain", w.plain(), 5);
        Check.due(w, "41 one HOUSEHOLD, no pairs", w.see(0), 0, 0);
        w.hung(1, 0, 1);
        Check.finds(w, "41 no TALE", 0, w.see(0), 4);
        Check.due("41 BAD ahead of NOUGHT", w.see(2), -1);
        Check.due("41 asked stays", w.asked(), 0);
    }

    private static void seeInWeather() {
        WashLine w = Check.world("k-k-w0t0:1-1w1t0:1-1w0t1:1-1w0t2:2-2i1c33199");
        Check.monday(w, 1, 2, 3);
        Check.due(w, "41 dry, on a RAINY last MONDAY", w.see(0), 1, 1);
        Check.due(w, "41 RAIN", w.see(1), 2, 1);
    }

    private static void seeMany() {
        WashLine w = Check.world("k-k-k-k-k-k-w0t1:1-1w1t1:1-1w2t1:1-1w3t1:1-1w4t1:1-1w5t1:1-1w5t4:1-1c00090");
        Check.monday(w, 0, 9);
        // By people 1, 6, 21, 56, 126, 252; by those of SORT 5 252, 126, 56, 21, 6, 1: alike.
        Check.due(w, "41 all HOUSEHOLDS", w.see(0), 1, pairs(1, 6, 21, 56, 126, 252));
        w.hung(0, 1, 14);
        // Five people, or four and a GUEST; of those by SORT 5 there are more pairs.
        Check.due(w, "41 four or five people", w.see(1), 4, pairs(126 + 70, 70 + 35, 35 + 15, 15 + 5, 5 + 1, 1));
    }

    private static int pairs(int... groups) {
        int pairs = 0;
        for (int a = 0; a < groups.length; a++) {
            for (int b = 0; b < a; b++) {
                pairs += groups[a] * groups[b];
            }
        }
        return pairs;
    }
}

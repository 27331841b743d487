/** DOUBTS and what is SEEN next, promises 39 to 41: their boundary cases, sentence by sentence. */
public final class EdgesOfDoubtsTest {
    private static final int BAD = WashLine.BAD;
    private static final int NOUGHT = 4;
    private static final int BIG = Integer.MAX_VALUE, SMALL = Integer.MIN_VALUE;

    public static void main(String[] args) {
        Edges.run(EdgesOfDoubtsTest.class);
    }

    // ---- the terms

    @Says("over all MONDAYS and THINGS by how many what hung is off from what it HANGS (DOUBT not looked at).")
    static void offByHowMany() {
        WashLine w = Check.world("k-w0t0:2-4w0t7:9-9i7");
        Check.monday(w, 0, 9, 2, 0, 0, 0, 0, 0, 0, 9);
        Check.due("as many as at least", w.doubts(1), 0);
        w.hung(0, 0, 4);
        Check.due("as many as at most", w.doubts(1), 0);
        w.hung(0, 0, 1);
        Check.due("one less, DOUBT 9", w.doubts(1), 1);
        w.hung(0, 0, 5);
        Check.due("one more, DOUBT 9", w.doubts(1), 1);
        w.hung(0, 7, 0);
        Check.due("of the last THING, too", w.doubts(1), 10);
        Check.monday(w, 1, 0, 2);
        Check.due("nothing at least in RAIN of what dries indoors", w.doubts(1), 10);
        for (int m = 2; m < 12; m++) {
            Check.monday(w, 0, 0, 0, 0, 0, 0, 0, 0, 0, 10);
        }
        Check.due("over all twelve", w.doubts(1), 10 + 10 * 3);
    }

    @Says("of HOUSEHOLDS that the last MONDAY has in PLAIN TALES")
    static void seenOfTheLastMonday() {
        WashLine w = Check.world("k-k-w0t0:1-1w1t0:1-1w0t1:0-0w1t1:1-1c33199");
        Check.monday(w, 0, 1, 2);
        // One, of the one SORT or of the other one: THING 1 parts them.
        Check.due(w, "one MONDAY", w.see(0), 1, 1);
        Check.monday(w, 0, 0);
        Check.due(w, "nobody on the last MONDAY", w.see(0), 0, 0);
        w.back(1);
        Check.monday(w, 0, 0, 1);
        Check.due(w, "one of one SORT on the last MONDAY, by what hung", w.see(0), 0, 0);
        WashLine fewer = Check.world("k-w0t7:1-1c00000");
        Check.monday(fewer, 0, 9);
        Check.due(fewer, "nobody to five", fewer.see(0), 7, 15);
        fewer.price(0, 9);
        Check.due(fewer, "nobody any more", fewer.see(0), 0, 0);
    }

    @Says("a THING parts two in a WEATHER, if the most of one is below the least of the other.")
    static void partsBelowTheLeast() {
        WashLine w = Check.world("k-k-w0t0:1-1w1t0:1-1w0t3:0-2w1t3:2-4w0t6:0-2w1t6:3-4i6c33199");
        Check.monday(w, 0, 2, 3, 0, 0, 2, 0, 0, 3);
        // THING 3: 0 to 2 and 2 to 4 are not parted; THING 6: 0 to 2 and 3 to 4 are, when it is dry.
        Check.due(w, "dry", w.see(0), 6, 1);
        Check.due(w, "RAIN", w.see(1), 0, 0);
    }

    // ---- promise 39: doubts

    @Says(promise = 39, value = "DOUBTS of a HOUSEHOLD.")
    static void doubtsOfNobodyAndFive() {
        WashLine w = Check.world("k-w0t0:9-9");
        Check.due("no MONDAYS", w.doubts(5), 0);
        for (int m = 0; m < 12; m++) {
            Check.monday(w, m % 2, 9, 40, 40, 40, 40, 40, 40, 40, 40);
        }
        Check.due("nobody", w.doubts(0), 12 * 8 * 40);
        Check.due("five", w.doubts(5), 12 * (7 * 40 + 5));
        Check.due("asked() stays", w.asked(), 0);
    }

    @Says(promise = 39, value = "BAD.")
    static void doubtsBad() {
        WashLine w = Check.world("k-k-");
        for (int house : new int[] {-1, 6, 15, 33, 60, 100, BIG, SMALL}) {
            Check.refused(w, "doubts(" + house + ")", BAD, () -> w.doubts(house));
        }
        WashLine none = new WashLine();
        Check.due("nobody, no SORT", none.doubts(0), 0);
        Check.refused(none, "doubts(1), no SORT", BAD, () -> none.doubts(1));
    }

    // ---- promise 40: least

    @Says(promise = 40, value = "The HOUSEHOLD with the fewest DOUBTS")
    static void leastOfNobodyToFive() {
        WashLine w = Check.world("k-w0t0:2-2");
        Check.due(w, "no MONDAYS", w.least(), 0, 0);
        Check.monday(w, 0, 9);
        for (int n = 0; n <= 5; n++) {
            w.hung(0, 0, 2 * n);
            Check.due(w, n + " people", w.least(), n, 0);
        }
        WashLine none = new WashLine();
        Check.due(none, "a new object", none.least(), 0, 0);
    }

    @Says(promise = 40, value = "(of alike ones the fewest people, then the least number)")
    static void leastOfAlikeOnes() {
        WashLine w = Check.world("k-k-k-w0t0:1-1w1t0:3-3w2t0:3-3");
        Check.monday(w, 0, 0, 3);
        Check.due(w, "one ahead of three, the least number", w.least(), 10, 0);
        w.hung(0, 0, 6);
        Check.due(w, "two, the least number", w.least(), 20, 0);
        w = Check.world("k-w0t0:2-2");
        Check.monday(w, 0, 0, 1);
        Check.due(w, "nobody ahead of one, each one off", w.least(), 0, 1);
        w = Check.world("k-k-k-k-k-k-");
        Check.monday(w, 0, 0, 1);
        Check.due(w, "all alike", w.least(), 0, 1);
    }

    @Says(promise = 40, value = "how many by asked().")
    static void leastTellsHowMany() {
        WashLine w = Check.world("k-w0t0:1-1");
        Check.monday(w, 0, 9, 40, 1);
        Check.due(w, "five", w.least(), 5, 36);
        w.hung(0, 1, 0);
        w.hung(0, 0, 5);
        Check.due(w, "none", w.least(), 5, 0);
        WashLine none = new WashLine();
        for (int m = 0; m < 12; m++) {
            Check.monday(none, 0, 0, 40, 40, 40, 40, 40, 40, 40, 40);
        }
        Check.due(none, "all", none.least(), 0, 12 * 8 * 40);
    }

    // ---- promise 41: see

    @Says(promise = 41, value = "The THING that parts most pairs next in a WEATHER (of alike ones the first)")
    static void seeFirstOfAlikeOnes() {
        String three = "k-k-k-w0t0:1-1w1t0:1-1w2t0:1-1c33199";
        // One of three SORTS: THINGS 5 and 7 part two pairs each, THING 2 one.
        WashLine w = Check.world(three + "w0t5:1-1w1t7:1-1w0t2:0-1w1t2:2-2w2t2:1-2");
        Check.monday(w, 0, 2, 3, 0, 2, 0, 0, 1, 0, 1);
        Check.due(w, "dry", w.see(0), 5, 2);
        WashLine rain = Check.world(three + "w0t5:1-1w1t7:1-1i5");
        Check.monday(rain, 0, 2, 3, 0, 0, 0, 0, 1, 0, 1);
        Check.due(rain, "dry", rain.see(0), 5, 2);
        Check.due(rain, "RAIN", rain.see(1), 7, 2);
        WashLine first = Check.world(three + "w0t1:1-1w0t0:2-2");
        Check.monday(first, 0, 2, 3, 1);
        Check.due(first, "the first THING of alike ones", first.see(0), 0, 2);
    }

    @Says(promise = 41, value = "how many by asked().")
    static void seeNonePartedAndAll() {
        WashLine w = Check.world("k-w0t0:1-1c33199");
        Check.monday(w, 0, 0, 1);
        Check.due(w, "one HOUSEHOLD", w.see(0), 0, 0);
        WashLine alike = Check.world("k-k-w0t0:1-1w1t0:1-1c33199");
        Check.monday(alike, 0, 0, 1);
        Check.due(alike, "two that hang alike", alike.see(1), 0, 0);
        WashLine six = Check.world("k-k-k-k-k-k-c00000w0t7:1-1w1t7:1-1w2t7:1-1w3t7:1-1w4t7:1-1w5t7:1-1");
        Check.monday(six, 1, 9);
        // 1, 6, 21, 56, 126, 252 HOUSEHOLDS of nobody to five people.
        int due = (462 * 462 - 1 - 36 - 441 - 3136 - 15876 - 63504) / 2;
        Check.due(six, "all HOUSEHOLDS", six.see(0), 7, due);
    }

    @Says(promise = 41, value = "BAD")
    static void seeBad() {
        WashLine w = Check.world("k-k-w0t0:1-1w1t0:1-1w1t1:1-1c33199");
        Check.monday(w, 0, 1, 2);
        w.see(0);
        for (int weather : new int[] {-1, 2, BIG, SMALL}) {
            Check.refused(w, "see(" + weather + ")", BAD, () -> w.see(weather));
        }
        WashLine none = new WashLine();
        Check.refused(none, "BAD ahead of NOUGHT", BAD, () -> none.see(2));
    }

    @Says(promise = 41, value = "NOUGHT: no TALE, no MONDAYS.")
    static void seeNought() {
        WashLine w = Check.world("k-w0t0:1-1");
        Check.finds(w, "no MONDAYS", NOUGHT, () -> w.see(0));
        Check.monday(w, 0, 0, 40);
        Check.finds(w, "no TALE", NOUGHT, () -> w.see(1));
        Check.monday(w, 0, 0, 1);
        Check.finds(w, "no TALE, though the last MONDAY is EXPLAINED", NOUGHT, () -> w.see(0));
        w.hung(0, 0, 1);
        Check.due("a TALE", w.see(0), 0);
        w.back(0);
        Check.finds(w, "no MONDAYS any more", NOUGHT, () -> w.see(0));
    }
}

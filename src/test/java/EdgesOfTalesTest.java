/** TALES, promises 27 to 33: their boundary cases, sentence by sentence. */
public final class EdgesOfTalesTest {
    private static final int BAD = WashLine.BAD, SPENT = WashLine.SPENT, NONE = WashLine.NONE;
    private static final int BEYOND = 2, NOUGHT = 4;
    private static final int BIG = Integer.MAX_VALUE, SMALL = Integer.MIN_VALUE;
    private static final int[] NO_ROWS = {-1, 6, BIG, SMALL};
    /** Of two MONDAYS. */
    private static final int[] NO_MONDAYS = {-1, 2, 11, 12, BIG, SMALL};
    /** Of two SORTS. */
    private static final int[] NO_SORTS = {-1, 2, 5, 6, BIG, SMALL};

    public static void main(String[] args) {
        Edges.run(EdgesOfTalesTest.class);
    }

    /** Dry MONDAYS without DOUBT on which so many hung of THING 0. */
    private static WashLine winter(String world, int... hung) {
        WashLine w = Check.world(world);
        for (int n : hung) {
            Check.monday(w, 0, 0, n);
        }
        return w;
    }

    /** Two MONDAYS, of which the second cannot be EXPLAINED. */
    private static WashLine withoutTale() {
        return winter("k-k-w0t0:1-1w1t0:1-1", 1, 40);
    }

    private static void first(WashLine w, String name, int... due) {
        Check.due(name + ", tale(4)", w.tale(4), due.length);
        Check.holdsRow(w, name, 4, due);
    }

    private static void tales(WashLine w, String name, long due) {
        Check.due(name + ", ways()", w.ways(), due > 0 ? 1 : 0);
        Check.due(name + ", tales()", w.tales(), due);
    }

    private static void fraction(WashLine w, String name, int n, long upper, long lower) {
        Check.due(name + ", share(0, 0, " + n + ")", w.share(0, 0, n), 1);
        Check.due(name + ", upper() of " + n, w.upper(), upper);
        Check.due(name + ", lower() of " + n, w.lower(), lower);
    }

    // ---- the terms

    @Says("A TALE gives each MONDAY a HOUSEHOLD that is EXPLAINED")
    static void eachMondayIsExplained() {
        WashLine w = winter("k-w0t0:1-1", 1, 1, 1);
        Check.due("all", w.plain(), 3);
        for (int m = 0; m < 3; m++) {
            w.hung(m, 7, 1);
            Check.refused(w, "all but MONDAY " + m, NONE, w::plain);
            w.hung(m, 7, 0);
        }
        w.hung(2, 0, 6);
        // Four come for the last one, and a GUEST: 3 + 12 + 2.
        Check.due("by a GUEST beside five", w.plain(), 17);
        w.hung(2, 0, 7);
        Check.refused(w, "a seventh hung", NONE, w::plain);
    }

    @Says("it costs the STEP from nobody to the first one, STEPS from each to the next, and all that EXPLAINS")
    static void whatATaleCosts() {
        WashLine w = winter("k1k-w0t0:1-1w1t1:1-1c93155", 5);
        Check.due("from nobody to five", w.plain(), 41);
        w.price(4, 9);
        Check.due("from nobody to five, GUESTS as dear", w.plain(), 45);
        Check.monday(w, 0, 0, 0, 5);
        Check.due("five GROWN", w.plain(), 50);
        Check.monday(w, 0, 0);
        // The last of five is ILL for 5, or GONE for 3.
        Check.due("five GONE", w.plain(), 65);
        w.price(3, 2);
        Check.due("four GONE, one ILL", w.plain(), 64);
        w.back(0);
        Check.monday(w, 0, 0);
        Check.due("nobody for nothing", w.plain(), 0);
    }

    @Says("PLAIN are TALES of the least cost")
    static void plainAreTheCheapest() {
        WashLine w = winter("k-w0t0:1-1c11122", 3);
        // Three for 3, two and a GUEST for 4, four and one ILL for 6.
        Check.due("plain()", w.plain(), 3);
        tales(w, "three", 1);
        w.price(4, 1);
        tales(w, "three, two and a GUEST", 2);
        w.price(4, 0);
        Check.due("plain()", w.plain(), 2);
        tales(w, "two and a GUEST", 1);
        first(w, "two and a GUEST", 2);
    }

    @Says("they come one behind the other by their HOUSEHOLDS (numbers), from the first MONDAY on.")
    static void talesInOrder() {
        // By way of the first SORT one ends in the last one: the lesser number first, then the greater one.
        WashLine w = Check.world("k3k2k-k-w0t0:1-1w1t0:1-1w2t1:1-1w3t1:1-1c33199");
        Check.monday(w, 0, 0, 1);
        Check.monday(w, 0, 0, 0, 1);
        Check.due("plain()", w.plain(), 4);
        tales(w, "two TALES", 2);
        first(w, "the first MONDAY counts first", 1, 1000);
        WashLine other = Check.world("k-k-w0t0:1-1w1t0:2-2c00099");
        Check.monday(other, 0, 0, 2);
        first(other, "two of SORT 0 ahead of one of SORT 1", 2);
    }

    @Says("Without MONDAYS there is one, of cost 0.")
    static void taleWithoutMondays() {
        for (WashLine w : new WashLine[] {new WashLine(), Check.world("k-c99999"), winter("k-w0t0:1-1", 40)}) {
            w.back(0);
            Check.due("plain()", w.plain(), 0);
            tales(w, "no MONDAYS", 1);
            first(w, "no MONDAYS");
            Check.finds(w, "at(4, 0)", BEYOND, () -> w.at(4, 0));
        }
    }

    // ---- promise 27: plain

    @Says(promise = 27, value = "The least cost of a TALE.")
    static void plainOfOneAndTwelve() {
        WashLine w = Check.world("k-k-w0t0:1-1w1t1:1-1c99999");
        Check.monday(w, 0, 0);
        Check.due("nobody", w.plain(), 0);
        w.back(0);
        for (int m = 0; m < 12; m++) {
            Check.monday(w, 0, 0, 6 * ((m + 1) % 2), 6 * (m % 2));
        }
        // Five and a GUEST each time, of the one SORT and of the other one by turns.
        Check.due("the dearest", w.plain(), 45 + 9 + 11 * (45 + 45 + 9));
    }

    @Says(promise = 27, value = "NONE: there is none.")
    static void plainNone() {
        WashLine w = withoutTale();
        Check.refused(w, "plain()", NONE, w::plain);
        w.back(1);
        Check.due("plain() of the first alone", w.plain(), 2);
        WashLine none = winter("", 1);
        Check.refused(none, "no SORT", NONE, none::plain);
    }

    // ---- promise 28: tale

    @Says(promise = 28, value = "HOUSEHOLDS of the first PLAIN TALE, MONDAY by MONDAY, come to a ROW (anew): how many.")
    static void taleOfNoneToTwelve() {
        WashLine w = winter("k-w0t0:1-1c33199");
        Check.row(w, 0, 7, 7, 7);
        Check.due("none", w.tale(0), 0);
        Check.finds(w, "at(0, 0)", BEYOND, () -> w.at(0, 0));
        for (int m = 0; m < 12; m++) {
            Check.monday(w, 0, 0, m % 6);
        }
        w.row(0, 40);
        w.lay(0, 12, 7);
        Check.due("twelve", w.tale(0), 12);
        Check.holdsRow(w, "twelve", 0, 0, 1, 2, 3, 4, 5, 0, 1, 2, 3, 4, 5);
        Check.finds(w, "at(0, 12)", BEYOND, () -> w.at(0, 12));
        w.back(1);
        Check.due("a ROW that was missing", w.tale(3), 1);
        Check.holdsRow(w, "a ROW that was missing", 3, 0);
        Check.due("count(4)", w.count(4), 3);
    }

    @Says(promise = 28, value = "BAD")
    static void taleBad() {
        WashLine w = winter("k-w0t0:1-1", 1);
        for (int r : NO_ROWS) {
            Check.refused(w, "tale(" + r + ")", BAD, () -> w.tale(r));
        }
        WashLine none = withoutTale();
        Check.refused(none, "BAD ahead of NOUGHT", BAD, () -> none.tale(6));
    }

    @Says(promise = 28, value = "NOUGHT.")
    static void taleNought() {
        WashLine w = withoutTale();
        Check.row(w, 0, 5, 6);
        Check.finds(w, "tale(0)", NOUGHT, () -> w.tale(0));
        Check.holdsRow(w, "tale(0)", 0, 5, 6);
        Check.finds(w, "tale(1), a missing ROW", NOUGHT, () -> w.tale(1));
    }

    // ---- promise 29: ways

    @Says(promise = 29, value = "How many PLAIN TALES there are, told by tales(): 1")
    static void waysOfOneAndMore() {
        WashLine w = winter("k-w0t0:1-1c33199", 1);
        tales(w, "one", 1);
        for (int m = 1; m < 12; m++) {
            Check.monday(w, 0, 0, m % 6);
            tales(w, "one on " + (m + 1) + " MONDAYS", 1);
        }
        WashLine many = Check.world("k-k-k-k-k-k-c00000");
        long due = 1;
        for (int m = 0; m < 5; m++) {
            Check.monday(many, m % 2, m);
            due *= 462;
            tales(many, "all HOUSEHOLDS on " + (m + 1) + " MONDAYS", due);
        }
    }

    @Says(promise = 29, value = "or 0 (none)")
    static void waysNone() {
        WashLine w = winter("k-k-w0t0:1-1w1t0:1-1c33199", 1);
        tales(w, "two", 2);
        w.hung(0, 0, 40);
        Check.due("ways()", w.ways(), 0);
        Check.due("tales()", w.tales(), 0);
        Check.due("finding()", w.finding(), 0);
        tales(winter("", 1), "no SORT", 0);
    }

    @Says(promise = 29, value = "SPENT: above 1000000000000000.")
    static void waysSpent() {
        WashLine w = tenToTheFifteenth();
        tales(w, "as many as are told", 1000000000000000L);
        w.hung(8, 1, 2);
        Check.due("one HOUSEHOLD more on a MONDAY", w.many(8, 0), 51);
        Check.refused(w, "ways()", SPENT, w::ways);
        w.hung(8, 1, 1);
        tales(w, "as many as are told, again", 1000000000000000L);
        WashLine all = Check.world("k-k-k-k-k-k-c00000");
        for (int m = 0; m < 12; m++) {
            Check.monday(all, 0, 0);
        }
        // 462 to the twelfth is above all longs.
        Check.refused(all, "ways() of all", SPENT, all::ways);
        all.back(6);
        Check.refused(all, "ways() of six MONDAYS", SPENT, all::ways);
        all.back(5);
        tales(all, "five MONDAYS", 462L * 462 * 462 * 462 * 462);
    }

    /** Fifty and twenty HOUSEHOLDS for nothing by turns, on ten MONDAYS. */
    private static WashLine tenToTheFifteenth() {
        WashLine w = Check.world("k-k-k-w0t0:1-1w1t0:1-1w2t0:1-1w0t1:1-1w1t2:1-1w2t3:1-1c00099");
        for (int pair = 0; pair < 5; pair++) {
            Check.monday(w, 0, 3, 3, 1, 0, 1);
            Check.monday(w, 0, 3, 0, 1, 1, 1);
        }
        Check.due("many(0, 0)", w.many(0, 0), 50);
        Check.due("many(1, 0)", w.many(1, 0), 20);
        return w;
    }

    // ---- promise 30: sure

    @Says(promise = 30, value = "Of how many of a SORT a MONDAY has in all PLAIN TALES at least; at most by asked().")
    static void sureOfNoneToFive() {
        WashLine w = winter("k-k-w0t0:1-1w1t0:1-1c33199", 5, 0);
        Check.due(w, "sure(0, 0)", w.sure(0, 0), 0, 5);
        Check.due(w, "sure(0, 1)", w.sure(0, 1), 0, 5);
        Check.due(w, "sure(1, 1)", w.sure(1, 1), 0, 0);
        w.hung(1, 0, 5);
        Check.due(w, "sure(1, 0)", w.sure(1, 0), 0, 5);
        WashLine five = winter("k-w0t0:1-1c33199", 5);
        Check.due(five, "sure of five", five.sure(0, 0), 5, 5);
        WashLine one = winter("k-w0t0:1-1c33199", 1);
        Check.due(one, "sure of one", one.sure(0, 0), 1, 1);
        WashLine many = Check.world("k-k-k-k-k-k-c00000");
        for (int m = 0; m < 12; m++) {
            Check.monday(many, 0, 0);
        }
        Check.due(many, "sure of more TALES than are told", many.sure(11, 5), 0, 5);
    }

    @Says(promise = 30, value = "BAD")
    static void sureBad() {
        WashLine w = winter("k-k-w0t0:1-1c33199", 1, 1);
        w.sure(0, 0);
        for (int m : NO_MONDAYS) {
            Check.refused(w, "sure(" + m + ", 0)", BAD, () -> w.sure(m, 0));
        }
        for (int s : NO_SORTS) {
            Check.refused(w, "sure(0, " + s + ")", BAD, () -> w.sure(0, s));
        }
        WashLine none = withoutTale();
        Check.refused(none, "BAD ahead of NOUGHT", BAD, () -> none.sure(0, 2));
        Check.refused(none, "BAD ahead of NOUGHT", BAD, () -> none.sure(2, 0));
    }

    @Says(promise = 30, value = "NOUGHT.")
    static void sureNought() {
        WashLine w = withoutTale();
        Check.finds(w, "sure(0, 0)", NOUGHT, () -> w.sure(0, 0));
        Check.finds(w, "sure(1, 1)", NOUGHT, () -> w.sure(1, 1));
    }

    // ---- promise 31: share

    @Says(promise = 31, value = "The part of PLAIN TALES in which a MONDAY has n (0 .. 5) of a SORT")
    static void shareOfNoneToFive() {
        WashLine w = winter("k-k-w0t0:1-1w1t0:1-1c33199", 5);
        for (int n = 0; n <= 5; n++) {
            fraction(w, "one of six", n, 1, 6);
        }
        WashLine five = winter("k-w0t0:1-1c33199", 5);
        for (int n = 0; n <= 5; n++) {
            fraction(five, "five alone", n, n / 5, 1);
        }
    }

    @Says(promise = 31, value = "told by upper(), lower(): 1.")
    static void shareInLowestTerms() {
        WashLine w = winter("k-k-k-w0t0:1-1w1t0:1-1w2t0:1-1c33199", 2);
        // 2, 11, 20, 101, 110, 200.
        fraction(w, "three of six", 0, 1, 2);
        fraction(w, "two of six", 1, 1, 3);
        fraction(w, "one of six", 2, 1, 6);
        fraction(w, "none of six", 3, 0, 1);
        WashLine late = winter("k-k-w0t0:1-1w1t0:1-1c33199", 0, 0, 0, 0, 0, 0, 0, 0, 0, 0, 0, 1);
        Check.due("share on the last MONDAY", late.share(11, 0, 1), 1);
        Check.due("upper(), one of two", late.upper(), 1);
        Check.due("lower(), one of two", late.lower(), 2);
        WashLine most = tenToTheFifteenth();
        // One of the first SORT: 14 of 50.
        Check.due("share of 10^15", most.share(0, 0, 1), 1);
        Check.due("upper()", most.upper(), 7);
        Check.due("lower()", most.lower(), 25);
    }

    @Says(promise = 31, value = "BAD")
    static void shareBad() {
        WashLine w = winter("k-k-w0t0:1-1c33199", 1, 1);
        w.share(0, 0, 1);
        for (int m : NO_MONDAYS) {
            Check.refused(w, "share(" + m + ", 0, 0)", BAD, () -> w.share(m, 0, 0));
        }
        for (int s : NO_SORTS) {
            Check.refused(w, "share(0, " + s + ", 0)", BAD, () -> w.share(0, s, 0));
        }
        for (int n : new int[] {-1, 6, BIG, SMALL}) {
            Check.refused(w, "share(0, 0, " + n + ")", BAD, () -> w.share(0, 0, n));
        }
    }

    @Says(promise = 31, value = "NOUGHT")
    static void shareNought() {
        WashLine w = withoutTale();
        Check.finds(w, "share(0, 0, 1)", NOUGHT, () -> w.share(0, 0, 1));
        Check.finds(w, "share(1, 1, 0)", NOUGHT, () -> w.share(1, 1, 0));
    }

    @Says(promise = 31, value = "SPENT.")
    static void shareSpent() {
        WashLine w = tenToTheFifteenth();
        w.share(0, 0, 1);
        w.hung(8, 1, 2);
        Check.refused(w, "share(0, 0, 1)", SPENT, () -> w.share(0, 0, 1));
        Check.refused(w, "share(9, 2, 5)", SPENT, () -> w.share(9, 2, 5));
    }

    @Says(promise = 31, value = "(SPENT last.)")
    static void shareSpentLast() {
        WashLine w = tenToTheFifteenth();
        w.hung(8, 1, 2);
        Check.refused(w, "BAD ahead of SPENT", BAD, () -> w.share(0, 0, 6));
        Check.refused(w, "BAD ahead of SPENT", BAD, () -> w.share(10, 0, 0));
        w.hung(9, 7, 40);
        Check.finds(w, "NOUGHT ahead of SPENT", NOUGHT, () -> w.share(0, 0, 0));
        Check.refused(w, "BAD ahead of NOUGHT", BAD, () -> w.share(0, 3, 0));
    }

    // ---- promise 32: through

    @Says(promise = 32, value = "The least cost of a TALE with a HOUSEHOLD on a MONDAY.")
    static void throughNobodyAndFive() {
        WashLine w = winter("k-w0t0:0-9", 0, 0);
        int[] due = {0, 3, 6, 9, 12, 15};
        for (int house = 0; house <= 5; house++) {
            // Who has come may stay.
            Check.due("through(0, " + house + ")", w.through(0, house), due[house]);
            Check.due("through(1, " + house + ")", w.through(1, house), due[house]);
        }
        WashLine dear = winter("k-k-w0t0:1-1w1t0:1-1c99999", 5, 0);
        Check.due("five come and go", dear.through(0, 5), 90);
        Check.due("five others come and go", dear.through(0, 50), 90);
        Check.due("four and a GUEST", dear.through(0, 40), 81);
        for (int m = 2; m < 12; m++) {
            Check.monday(dear, 0, 0);
        }
        Check.due("one that is ILL on the last MONDAY", dear.through(11, 1), 99);
        WashLine down = Check.world("k-k0k1w0t0:1-1w1t1:1-1w2t2:1-1c44199");
        Check.monday(down, 0, 0, 0, 0, 5);
        Check.monday(down, 0, 0, 5);
        Check.due("five GROWN from the last SORT to the first one", down.through(0, 500), 30);
        Check.due("five GROWN from the last SORT to the first one", down.through(1, 5), 30);
    }

    @Says(promise = 32, value = "NONE: there is none.")
    static void throughNone() {
        WashLine w = winter("k-w0t0:1-1", 1, 1);
        Check.refused(w, "not EXPLAINED on that MONDAY", NONE, () -> w.through(0, 3));
        Check.due("EXPLAINED by ILL twice", w.through(0, 2), 10);
        w.hung(1, 0, 40);
        Check.refused(w, "another MONDAY is not EXPLAINED", NONE, () -> w.through(0, 1));
        Check.refused(w, "that MONDAY is not EXPLAINED", NONE, () -> w.through(1, 1));
        w.hung(1, 0, 1);
        w.hung(0, 0, 40);
        Check.refused(w, "the MONDAY ahead is not EXPLAINED", NONE, () -> w.through(1, 1));
    }

    @Says(promise = 32, value = "BAD.")
    static void throughBad() {
        WashLine w = winter("k-k-w0t0:1-1", 1, 1);
        for (int m : NO_MONDAYS) {
            Check.refused(w, "through(" + m + ", 0)", BAD, () -> w.through(m, 0));
        }
        for (int house : new int[] {-1, 6, 33, 60, 100, BIG, SMALL}) {
            Check.refused(w, "through(0, " + house + ")", BAD, () -> w.through(0, house));
        }
        WashLine none = new WashLine();
        Check.refused(none, "no MONDAY", BAD, () -> none.through(0, 0));
    }

    // ---- promise 33: rival

    @Says(promise = 33, value = "The least cost of a TALE with another HOUSEHOLD on a MONDAY than that of the first PLAIN one")
    static void rivalOfTheFirst() {
        WashLine w = winter("k-w0t0:1-1", 1, 2);
        // 1, then a GUEST: 5. Nobody and a GUEST, then one and a GUEST: 7; 1, then 2: 6.
        first(w, "first", 1, 1);
        Check.due(w, "rival(0)", w.rival(0), 7, 0);
        Check.due(w, "rival(1)", w.rival(1), 6, 2);
        WashLine alike = winter("k-k-w0t0:1-1w1t0:1-1c33199", 1);
        Check.due(alike, "as PLAIN as the first", alike.rival(0), 3, 10);
        Check.due("plain()", alike.plain(), 3);
    }

    @Says(promise = 33, value = "that HOUSEHOLD (the least number) by asked()")
    static void rivalOfLeastNumber() {
        WashLine w = winter("k-k-k-w0t0:1-1w1t0:1-1w2t0:1-1c33199", 1);
        first(w, "the first of three", 1);
        Check.due(w, "the second of three", w.rival(0), 3, 10);
        w.price(4, 0);
        first(w, "nobody and a GUEST", 0);
        Check.due(w, "the first of three behind it", w.rival(0), 3, 1);
        WashLine five = winter("k-k-w0t0:1-1w1t0:1-1c33192", 6);
        first(five, "five of the first SORT and a GUEST", 5);
        Check.due(five, "four and one", five.rival(0), 17, 14);
        WashLine twelve = winter("k-k-w0t0:1-1w1t0:1-1c33199", 0, 0, 0, 0, 0, 0, 0, 0, 0, 0, 0, 1);
        Check.due(twelve, "on the last MONDAY", twelve.rival(11), 3, 10);
    }

    @Says(promise = 33, value = "NONE.")
    static void rivalNone() {
        WashLine w = winter("k-w0t0:1-1", 1, 6);
        w.rival(0);
        Check.due("asked()", w.asked(), 0);
        Check.refused(w, "five and a GUEST alone", NONE, () -> w.rival(1));
        WashLine none = winter("", 0);
        Check.refused(none, "no SORT", NONE, () -> none.rival(0));
    }

    @Says(promise = 33, value = "BAD")
    static void rivalBad() {
        WashLine w = winter("k-w0t0:1-1", 1, 2);
        w.rival(1);
        for (int m : NO_MONDAYS) {
            Check.refused(w, "rival(" + m + ")", BAD, () -> w.rival(m));
        }
        WashLine none = withoutTale();
        Check.refused(none, "BAD ahead of NOUGHT", BAD, () -> none.rival(2));
    }

    @Says(promise = 33, value = "NOUGHT.")
    static void rivalNought() {
        WashLine w = withoutTale();
        Check.finds(w, "rival(0)", NOUGHT, () -> w.rival(0));
        Check.finds(w, "rival(1)", NOUGHT, () -> w.rival(1));
    }
}

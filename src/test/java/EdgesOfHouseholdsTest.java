/** HOUSEHOLDS and STEPS, promises 20 to 26: their boundary cases, sentence by sentence. */
public final class EdgesOfHouseholdsTest {
    private static final int BAD = WashLine.BAD, NONE = WashLine.NONE;
    private static final int BIG = Integer.MAX_VALUE, SMALL = Integer.MIN_VALUE;
    /** Of two SORTS: below nobody, a sixth one, a SORT that there is not. */
    private static final int[] NO_HOUSES = {-1, 6, 9, 15, 60, 33, 100, 101, BIG, SMALL};
    private static final int[] NO_MONDAYS = {-1, 1, 11, 12, BIG, SMALL};

    public static void main(String[] args) {
        Edges.run(EdgesOfHouseholdsTest.class);
    }

    /** One dry MONDAY; PRICES of ILL and GUEST are 8 and 9, so that each is told apart from 0. */
    private static WashLine house(String world, int doubt, int... hung) {
        WashLine w = Check.world(world);
        w.price(3, 8);
        w.price(4, 9);
        Check.monday(w, 0, doubt, hung);
        return w;
    }

    // ---- the terms: HOUSEHOLDS

    @Says("A HOUSEHOLD is how many there are of each SORT, 5 people together at most")
    static void fivePeople() {
        int[] good = {0, 1, 5, 14, 41, 50, 113, 500, 11111, 100000, 111110, 111101, 200003, 500000};
        int[] bad = {6, 9, 15, 24, 42, 51, 60, 90, 114, 600, 111111, 200004, 500001, 600000, 999999};
        WashLine w = Check.world("k-k-k-k-k-k-");
        for (int house : good) {
            Check.due("doubts(" + house + ")", w.doubts(house), 0);
        }
        for (int house : bad) {
            Check.refused(w, "doubts(" + house + ")", BAD, () -> w.doubts(house));
        }
    }

    @Says("of SORT 0 the last figure, of SORT 1 the one ahead of it, ..")
    static void figuresOfHouseholds() {
        WashLine w = Check.world("k-k-k-k-k-k-w0t0:1-1w1t1:1-1w2t2:1-1w3t3:1-1w4t4:1-1w5t5:1-1");
        int house = 1;
        for (int s = 0; s < 6; s++) {
            for (int x = 0; x < 6; x++) {
                int due = x == s ? 1 : 0;
                Check.due(w, "hangs(" + house + ", 0, " + x + ")", w.hangs(house, 0, x), due, due);
            }
            house *= 10;
        }
        int[] due = {3, 0, 0, 0, 0, 2};
        for (int x = 0; x < 6; x++) {
            Check.due(w, "hangs(200003, 0, " + x + ")", w.hangs(200003, 0, x), due[x], due[x]);
        }
        Check.refused(w, "a seventh figure", BAD, () -> w.hangs(1000000, 0, 0));
    }

    @Says("(SORTS that there are not: 0)")
    static void noPeopleOfOtherSorts() {
        int house = 1;
        for (int sorts = 0; sorts <= 6; sorts++) {
            WashLine w = Check.world("k-".repeat(sorts));
            int next = house;
            Check.refused(w, sorts + " SORTS, doubts(" + next + ")", BAD, () -> w.doubts(next));
            Check.refused(w, sorts + " SORTS, doubts(" + 4 * next + ")", BAD, () -> w.doubts(4 * next));
            Check.due(sorts + " SORTS, the last one", w.doubts(sorts == 0 ? 0 : house / 10), 0);
            house *= 10;
        }
        WashLine w = Check.world("k-k-");
        Check.refused(w, "doubts(101)", BAD, () -> w.doubts(101));
        Check.lay(w, 0, "k-");
        w.world(0);
        Check.refused(w, "doubts(10), of the WORLD before", BAD, () -> w.doubts(10));
    }

    // ---- the terms: what HANGS, what AGREES

    @Says("A HOUSEHOLD HANGS of a THING as many at least (at most) as all its people together")
    static void hangsOfNobodyAndFive() {
        WashLine w = Check.world("k-k-w0t0:9-9w1t0:8-9w0t7:0-1");
        Check.due(w, "nobody", w.hangs(0, 0, 0), 0, 0);
        Check.due(w, "five", w.hangs(5, 0, 0), 45, 45);
        Check.due(w, "two and three", w.hangs(32, 0, 0), 42, 45);
        Check.due(w, "the last THING", w.hangs(32, 0, 7), 0, 2);
        Check.due(w, "a THING of none", w.hangs(32, 0, 6), 0, 0);
    }

    @Says("in RAIN nothing at least of what dries indoors.")
    static void hangsInRain() {
        WashLine w = Check.world("k-w0t0:2-3w0t1:2-3w0t7:2-3i0i7");
        int[] least = {0, 4, 0};
        int[] things = {0, 1, 7};
        for (int k = 0; k < 3; k++) {
            Check.due(w, "RAIN, THING " + things[k], w.hangs(2, 1, things[k]), least[k], 6);
            Check.due(w, "dry, THING " + things[k], w.hangs(2, 0, things[k]), 4, 6);
        }
        Check.monday(w, 1, 0, 0, 4);
        Check.monday(w, 0, 0, 0, 4);
        Check.due("lacks in RAIN", w.lacks(0, 2), 0);
        Check.due("lacks dry", w.lacks(1, 2), 1 | 128);
        Check.due("explained in RAIN", w.explains(0, 2), 0);
        Check.due("explained dry", w.explains(1, 2), NONE);
        w.hung(0, 0, 6);
        w.hung(0, 7, 6);
        Check.due(w, "in RAIN at most as ever", w.explains(0, 2), 0, 0);
        Check.due(w, "in RAIN at most as ever", w.lacks(0, 2), 0, 0);
        w.hung(0, 0, 7);
        Check.refused(w, "in RAIN no more than ever", NONE, () -> w.explains(0, 2));
        Check.due(w, "in RAIN no more than ever", w.lacks(0, 2), 0, 1);
    }

    @Says("what hung less DOUBT is no more than it HANGS at most")
    static void agreesAtMost() {
        for (int doubt = 0; doubt <= 9; doubt += 3) {
            WashLine w = house("k-w0t7:2-4", doubt, 0, 0, 0, 0, 0, 0, 0, 4 + doubt);
            Check.due(w, "as many, DOUBT " + doubt, w.explains(0, 1), 0, 0);
            w.hung(0, 7, 5 + doubt);
            Check.due(w, "one more, DOUBT " + doubt, w.explains(0, 1), 9, 20);
        }
    }

    @Says("and DOUBT more is no less than it HANGS at least")
    static void agreesAtLeast() {
        for (int doubt = 0; doubt <= 8; doubt += 4) {
            WashLine w = house("k-w0t7:9-9", doubt, 0, 0, 0, 0, 0, 0, 0, 9 - doubt);
            Check.due(w, "as many, DOUBT " + doubt, w.explains(0, 1), 0, 0);
            w.hung(0, 7, 8 - doubt);
            Check.due(w, "one less, DOUBT " + doubt, w.explains(0, 1), 8, 10);
        }
    }

    @Says("It AGREES with a MONDAY by itself, if of each THING")
    static void agreesOfEachThing() {
        for (int x = 0; x < 8; x++) {
            WashLine w = house("k-w0t" + x + ":1-1", 0);
            Check.due("THING " + x + " lacks", w.explains(0, 1), 8);
            w.hung(0, x, 2);
            Check.due("THING " + x + " is too much", w.explains(0, 1), 9);
            w.hung(0, x, 1);
            Check.due("THING " + x, w.explains(0, 1), 0);
        }
    }

    // ---- the terms: ILL, GUEST

    @Says("By ILL of a SORT that is there")
    static void illOfThoseThere() {
        WashLine w = house("k-k-k-w0t0:1-1w1t0:1-1w2t0:1-1", 0);
        Check.due(w, "one of the first SORT", w.explains(0, 1), 8, 10);
        Check.due(w, "one of the second SORT", w.explains(0, 10), 8, 11);
        Check.due(w, "one of the last SORT", w.explains(0, 100), 8, 12);
        Check.refused(w, "nobody is never ILL, two are too many", NONE, () -> w.explains(0, 2));
        w.hung(0, 7, 1);
        Check.refused(w, "nobody there", NONE, () -> w.explains(0, 0));
    }

    @Says("of one such nothing HANGS at least")
    static void oneIllAlone() {
        WashLine w = house("k-w0t0:3-3w0t7:2-2", 0, 3, 0, 0, 0, 0, 0, 0, 2);
        Check.due(w, "two, one ILL", w.explains(0, 2), 8, 10);
        w.hung(0, 0, 2);
        Check.refused(w, "two, one less than one hangs", NONE, () -> w.explains(0, 2));
        w.hung(0, 0, 3);
        w.hung(0, 7, 1);
        Check.refused(w, "two, one less of the other THING", NONE, () -> w.explains(0, 2));
        w.hung(0, 7, 2);
        Check.refused(w, "three, two were ILL", NONE, () -> w.explains(0, 3));
        w.hung(0, 0, 6);
        w.hung(0, 7, 4);
        Check.due(w, "three, one ILL", w.explains(0, 3), 8, 10);
    }

    @Says("(at most as ever)")
    static void illHangsAtMostAsEver() {
        WashLine w = house("k-w0t0:1-1w0t1:0-3", 0, 0, 3);
        Check.due(w, "one ILL one hangs three yet", w.explains(0, 1), 8, 10);
        w.hung(0, 1, 4);
        Check.refused(w, "not four", NONE, () -> w.explains(0, 1));
        w.hung(0, 0, 1);
        w.hung(0, 1, 6);
        Check.due(w, "one of two is ILL, both hang three", w.explains(0, 2), 8, 10);
        w.hung(0, 1, 7);
        Check.refused(w, "not seven", NONE, () -> w.explains(0, 2));
    }

    @Says("by a GUEST of a SORT: with one more (6 may be)")
    static void guestIsASixth() {
        WashLine w = house("k-k-w0t0:1-1w1t0:2-2", 0, 6);
        Check.due(w, "five and a GUEST", w.explains(0, 5), 9, 20);
        w.hung(0, 0, 7);
        Check.due(w, "five and a GUEST of the last SORT", w.explains(0, 5), 9, 21);
        w.hung(0, 0, 12);
        Check.due(w, "five and a GUEST, all of the last SORT", w.explains(0, 50), 9, 21);
        w.hung(0, 0, 13);
        Check.refused(w, "no seventh", NONE, () -> w.explains(0, 50));
        w.hung(0, 0, 1);
        Check.due(w, "nobody and a GUEST", w.explains(0, 0), 9, 20);
        WashLine none = house("", 0, 1);
        Check.refused(none, "no SORT, no GUEST", NONE, () -> none.explains(0, 0));
    }

    @Says("with one more")
    static void guestHangsAtLeastAndAtMost() {
        WashLine w = house("k-w0t0:2-3", 0, 3);
        Check.due(w, "as many as one at most", w.explains(0, 0), 9, 20);
        w.hung(0, 0, 4);
        Check.refused(w, "one more than one at most", NONE, () -> w.explains(0, 0));
        w.hung(0, 0, 2);
        Check.due(w, "as many as one at least", w.explains(0, 0), 9, 20);
        w.hung(0, 0, 1);
        Check.refused(w, "one less than one at least", NONE, () -> w.explains(0, 0));
        WashLine rain = Check.world("k-w0t0:2-3i0");
        Check.monday(rain, 1, 0, 1);
        Check.due(rain, "nothing at least in RAIN, with a GUEST", rain.explains(0, 0), 2, 20);
    }

    @Says("EXPLAINED it is by the least PRICE: 0 by itself, ILL, GUEST (one of these")
    static void oneExplanationAlone() {
        WashLine w = house("k-k-w0t0:1-1w1t1:1-1", 0, 1);
        Check.due(w, "by itself", w.explains(0, 1), 0, 0);
        w.hung(0, 0, 2);
        Check.refused(w, "no two GUESTS", NONE, () -> w.explains(0, 0));
        w.hung(0, 0, 0);
        Check.refused(w, "no two ILL ones", NONE, () -> w.explains(0, 2));
        Check.refused(w, "no two ILL ones of two SORTS", NONE, () -> w.explains(0, 11));
        w.hung(0, 1, 1);
        Check.refused(w, "not ILL and a GUEST", NONE, () -> w.explains(0, 1));
        Check.due(w, "ILL", w.explains(0, 11), 8, 10);
        Check.due(w, "a GUEST", w.explains(0, 0), 9, 21);
    }

    @Says("of alike ones by itself, then ILL, then GUEST, of the first SORT")
    static void alikeExplanations() {
        WashLine w = house("k-k-k-w0t0:0-1w1t0:1-1w2t0:1-1", 0, 1);
        w.price(3, 0);
        w.price(4, 0);
        Check.due(w, "by itself, by ILL and by a GUEST alike", w.explains(0, 1), 0, 0);
        Check.due(w, "by itself, by ILL alike", w.explains(0, 10), 0, 0);
        Check.due(w, "ILL, the first SORT that does it", w.explains(0, 110), 0, 11);
        Check.due(w, "a GUEST of the first SORT", w.explains(0, 0), 0, 20);
        w.hung(0, 0, 3);
        Check.due(w, "a GUEST of the first SORT", w.explains(0, 110), 0, 20);
        w.hung(0, 0, 2);
        Check.due(w, "ILL of the last SORT", w.explains(0, 300), 0, 12);
        WashLine later = house("k-k-k-w1t0:1-1w2t0:1-1", 0, 1);
        Check.due(later, "a GUEST of the first SORT that does it", later.explains(0, 0), 9, 21);
        Check.due(later, "ILL, the first SORT that does it", later.explains(0, 111), 8, 11);
    }

    // ---- the terms: STEPS

    @Says("people that COME, are GONE, each one by one")
    static void stepsOneByOne() {
        WashLine w = Check.world("k-k-k-k-k-k-c94009");
        for (int n = 0; n <= 5; n++) {
            Check.due(n + " COME", w.step(0, n * 100000), 9 * n);
            Check.due(n + " are GONE", w.step(n, 0), 4 * n);
            Check.due(n + " are GONE, as many COME", w.step(n, n * 10), 13 * n);
        }
        Check.due("one of each", w.step(11111, 111110), 13);
    }

    @Says("or GROWN (one of a SORT becomes one of that into which it grows), as often as wanted")
    static void stepsGrown() {
        WashLine w = Check.world("k1k2k3k4k5k-c99199");
        Check.due("GROWN once", w.step(1, 10), 1);
        Check.due("GROWN five times", w.step(1, 100000), 5);
        Check.due("five GROWN five times", w.step(5, 500000), 25);
        Check.due("never back", w.step(10, 1), 18);
        Check.due("never into none, and on", w.step(100000, 1), 18);
        WashLine ring = Check.world("k1k2k3k4k5k0c99199");
        Check.due("round a ring", ring.step(10, 1), 5);
        Check.due("five round a ring", ring.step(50, 5), 25);
        Check.due("GROWN into itself changes nothing", Check.world("k0k-c99099").step(1, 10), 18);
    }

    @Says("never more than 5 together")
    static void stepsWithinFive() {
        WashLine w = Check.world("k1k-c99199");
        Check.due("five stay", w.step(5, 5), 0);
        Check.due("among five one is GROWN", w.step(5, 14), 1);
        Check.due("five GONE, five COME", w.step(50, 5), 90);
        Check.due("one GONE, one COMES", w.step(50, 41), 18);
        Check.refused(w, "no STEP to six", BAD, () -> w.step(5, 6));
        Check.refused(w, "no STEP from six", BAD, () -> w.step(51, 50));
    }

    @Says("the least PRICE of all these")
    static void cheapestStep() {
        WashLine w = Check.world("k1k2k-c22399");
        Check.due("GROWN", w.step(1, 10), 3);
        Check.due("GONE and COME for less than GROWN twice", w.step(1, 100), 4);
        w.price(2, 4);
        Check.due("alike", w.step(1, 10), 4);
        w.price(2, 5);
        Check.due("GONE and COME for less than GROWN", w.step(1, 10), 4);
        w.price(2, 0);
        Check.due("GROWN for nothing", w.step(5, 500), 0);
        w.price(0, 0);
        Check.due("COME for nothing", w.step(0, 500), 0);
        w.price(1, 0);
        Check.due("all for nothing", w.step(500, 5), 0);
    }

    // ---- promise 20: hangs

    @Says(promise = 20, value = "What a HOUSEHOLD HANGS of a THING in a WEATHER at least; at most by asked().")
    static void hangsFirstAndLast() {
        WashLine w = Check.world("k-k-k-k-k-k-w0t0:1-2w5t7:8-9i7");
        Check.due(w, "hangs(0, 0, 0)", w.hangs(0, 0, 0), 0, 0);
        Check.due(w, "hangs(5, 1, 0)", w.hangs(5, 1, 0), 5, 10);
        Check.due(w, "hangs(500000, 0, 7)", w.hangs(500000, 0, 7), 40, 45);
        Check.due(w, "hangs(500000, 1, 7)", w.hangs(500000, 1, 7), 0, 45);
        Check.due(w, "hangs(500000, 1, 0)", w.hangs(500000, 1, 0), 0, 0);
    }

    @Says(promise = 20, value = "BAD")
    static void hangsBad() {
        WashLine w = Check.world("k-k-w0t0:1-2");
        w.hangs(2, 0, 0);
        for (int odd : new int[] {-1, BIG, SMALL}) {
            Check.refused(w, "WEATHER " + odd, BAD, () -> w.hangs(0, odd, 0));
            Check.refused(w, "THING " + odd, BAD, () -> w.hangs(0, 0, odd));
        }
        Check.refused(w, "WEATHER 2", BAD, () -> w.hangs(0, 2, 0));
        Check.refused(w, "THING 8", BAD, () -> w.hangs(0, 0, 8));
    }

    @Says(promise = 20, value = "also a number that is no HOUSEHOLD.")
    static void hangsOfNoHousehold() {
        WashLine w = Check.world("k-k-w0t0:1-2");
        w.hangs(2, 0, 0);
        for (int house : NO_HOUSES) {
            Check.refused(w, "hangs(" + house + ", 0, 0)", BAD, () -> w.hangs(house, 0, 0));
        }
    }

    // ---- promise 21: explains

    @Says(promise = 21, value = "The PRICE by which a HOUSEHOLD is EXPLAINED on a MONDAY")
    static void explainsForPrices() {
        WashLine w = house("k-w0t0:1-1", 0, 1);
        for (int price = 0; price <= 9; price += 9) {
            w.price(3, price);
            w.price(4, price);
            Check.due("by itself", w.explains(0, 1), 0);
            Check.due("ILL", w.explains(0, 2), price);
            Check.due("a GUEST", w.explains(0, 0), price);
        }
    }

    @Says(promise = 21, value = "how by asked() (0 by itself, 10 and the SORT ILL, 20 and the SORT GUEST)")
    static void explainsHow() {
        WashLine w = house("k-k-k-k-k-k-w0t0:1-1w5t5:1-1", 0, 1, 0, 0, 0, 0, 1);
        Check.due(w, "by itself", w.explains(0, 100001), 0, 0);
        Check.due(w, "ILL of the first SORT", w.explains(0, 100002), 8, 10);
        Check.due(w, "ILL of the last SORT", w.explains(0, 200001), 8, 15);
        Check.due(w, "a GUEST of the first SORT", w.explains(0, 100000), 9, 20);
        Check.due(w, "a GUEST of the last SORT", w.explains(0, 1), 9, 25);
    }

    @Says(promise = 21, value = "NONE: it is not.")
    static void explainsNot() {
        WashLine w = house("k-w0t0:1-1", 0, 3);
        w.explains(0, 2);
        Check.due("asked()", w.asked(), 20);
        Check.refused(w, "two too few", NONE, () -> w.explains(0, 1));
        Check.refused(w, "two too many", NONE, () -> w.explains(0, 5));
        Check.due(w, "one too many", w.explains(0, 4), 8, 10);
    }

    @Says(promise = 21, value = "BAD.")
    static void explainsBad() {
        WashLine w = house("k-k-w0t0:1-1", 0, 3);
        w.explains(0, 2);
        for (int m : NO_MONDAYS) {
            Check.refused(w, "explains(" + m + ", 0)", BAD, () -> w.explains(m, 0));
        }
        for (int house : NO_HOUSES) {
            Check.refused(w, "explains(0, " + house + ")", BAD, () -> w.explains(0, house));
        }
    }

    // ---- promise 22: lacks

    @Says(promise = 22, value = "THINGS (bits) of which fewer hung on a MONDAY than a HOUSEHOLD by itself HANGS at least")
    static void lacksNoneAndAll() {
        String all = "k-w0t0:2-3w0t1:2-3w0t2:2-3w0t3:2-3w0t4:2-3w0t5:2-3w0t6:2-3w0t7:2-3";
        WashLine w = house(all, 0, 1, 1, 1, 1, 1, 1, 1, 1);
        Check.due(w, "all", w.lacks(0, 1), 255, 0);
        w.hung(0, 0, 2);
        w.hung(0, 7, 2);
        Check.due(w, "all but the first and the last", w.lacks(0, 1), 126, 0);
        for (int x = 0; x < 8; x++) {
            w.hung(0, x, 2);
        }
        Check.due(w, "none", w.lacks(0, 1), 0, 0);
        Check.due("an ILL one is not looked at", w.lacks(0, 2), 255);
    }

    @Says(promise = 22, value = "(DOUBT looked at)")
    static void lacksByDoubt() {
        WashLine w = house("k-w0t0:5-6", 2, 3, 3);
        Check.due(w, "DOUBT covers two", w.lacks(0, 1), 0, 2);
        w.hung(0, 0, 2);
        w.hung(0, 1, 2);
        Check.due(w, "DOUBT covers no three", w.lacks(0, 1), 1, 0);
        w.hung(0, 0, 8);
        Check.due(w, "DOUBT covers two more", w.lacks(0, 1), 0, 0);
        w.hung(0, 0, 9);
        Check.due(w, "DOUBT covers no three more", w.lacks(0, 1), 0, 1);
    }

    @Says(promise = 22, value = "those of which more than at most by asked().")
    static void tooMuchOfNoneAndAll() {
        WashLine w = house("k-w0t0:1-2w0t7:1-2", 0, 3, 1, 1, 1, 1, 1, 1, 3);
        Check.due(w, "all", w.lacks(0, 1), 0, 255);
        w.hung(0, 0, 2);
        w.hung(0, 7, 2);
        Check.due(w, "all but the first and the last", w.lacks(0, 1), 0, 126);
        for (int x = 1; x < 7; x++) {
            w.hung(0, x, 0);
        }
        Check.due(w, "none", w.lacks(0, 1), 0, 0);
        Check.due(w, "nobody", w.lacks(0, 0), 0, 129);
        Check.monday(w, 0, 0, 40);
        Check.due(w, "of that MONDAY alone", w.lacks(0, 1), 0, 0);
    }

    @Says(promise = 22, value = "BAD.")
    static void lacksBad() {
        WashLine w = house("k-k-w0t0:1-1", 0, 3);
        w.lacks(0, 0);
        for (int m : NO_MONDAYS) {
            Check.refused(w, "lacks(" + m + ", 0)", BAD, () -> w.lacks(m, 0));
        }
        for (int house : NO_HOUSES) {
            Check.refused(w, "lacks(0, " + house + ")", BAD, () -> w.lacks(0, house));
        }
    }

    // ---- promise 23: fewest

    @Says(promise = 23, value = "The fewest people of a HOUSEHOLD that AGREES by itself with a MONDAY")
    static void fewestFromNobodyToFive() {
        WashLine w = house("k-k-w0t0:1-2w1t0:1-2", 0, 0);
        int[] due = {0, 1, 1, 2, 2, 3, 3, 4, 4, 5, 5};
        for (int n = 0; n <= 10; n++) {
            w.hung(0, 0, n);
            Check.due(w, "fewest people for " + n, w.fewest(0), due[n], due[n]);
        }
        WashLine all = house("k-w0t0:0-8", 0, 0);
        Check.due(all, "nobody, and each other one", all.fewest(0), 0, 0);
        all.hung(0, 0, 8);
        Check.due(all, "one, and each with more", all.fewest(0), 1, 1);
        all.hung(0, 0, 9);
        Check.due(all, "two, and each with more", all.fewest(0), 2, 2);
        w.hung(0, 0, 11);
        Check.refused(w, "a sixth, or a GUEST, is not looked at", NONE, () -> w.fewest(0));
    }

    @Says(promise = 23, value = "the least number of those by asked().")
    static void fewestOfLeastNumber() {
        WashLine w = house("k-k-k-w0t0:1-1w1t0:4-4w2t0:4-4", 0, 4);
        Check.due(w, "one of two SORTS, ahead of four", w.fewest(0), 1, 10);
        w.hung(0, 0, 8);
        Check.due(w, "two of two SORTS", w.fewest(0), 2, 20);
        w.hung(0, 0, 5);
        Check.due(w, "one of each", w.fewest(0), 2, 11);
    }

    @Says(promise = 23, value = "NONE.")
    static void fewestNone() {
        WashLine w = house("k-w0t0:1-1", 0, 1);
        w.fewest(0);
        Check.due("asked()", w.asked(), 1);
        w.hung(0, 0, 6);
        Check.refused(w, "more than five hang", NONE, () -> w.fewest(0));
        w.hung(0, 0, 1);
        w.hung(0, 7, 1);
        Check.refused(w, "what none hangs", NONE, () -> w.fewest(0));
        WashLine anew = Check.world("k-k-w0t0:1-1w1t7:1-1");
        Check.lay(anew, 0, "k-w0t0:1-1");
        anew.world(0);
        Check.monday(anew, 0, 0, 0, 0, 0, 0, 0, 0, 0, 1);
        Check.refused(anew, "HOUSEHOLDS of the WORLD before are none", NONE, () -> anew.fewest(0));
    }

    @Says(promise = 23, value = "BAD.")
    static void fewestBad() {
        WashLine w = house("k-w0t0:1-1", 0, 1);
        w.fewest(0);
        for (int m : NO_MONDAYS) {
            Check.refused(w, "fewest(" + m + ")", BAD, () -> w.fewest(m));
        }
    }

    // ---- promise 24: bound

    @Says(promise = 24, value = "A bound by THINGS for that: of each THING what hung less DOUBT (0 at least)")
    static void boundOfNone() {
        WashLine w = house("k-w0t0:1-1", 0);
        Check.due("none hung", w.bound(0), 0);
        Check.monday(w, 0, 3, 3);
        Check.due("as many as DOUBT", w.bound(1), 0);
        Check.monday(w, 0, 9, 1, 9);
        Check.due("fewer than DOUBT", w.bound(2), 0);
        Check.monday(w, 0, 3, 4);
        Check.due("one more than DOUBT", w.bound(3), 1);
    }

    @Says(promise = 24, value = "by the most of any SORT, rounded up")
    static void boundRoundedUp() {
        WashLine w = house("k-k-k-w0t0:0-3w1t0:0-4w2t0:0-1", 0);
        int[] due = {0, 1, 1, 1, 1, 2, 2, 2, 2, 3};
        for (int n = 0; n < due.length; n++) {
            w.hung(0, 0, n);
            Check.due(n + " hung", w.bound(0), due[n]);
        }
        w.hung(0, 0, 40);
        Check.due("40 hung", w.bound(0), 10);
        WashLine one = house("k-w0t0:1-1", 0, 40);
        Check.due("above five", one.bound(0), 40);
    }

    @Says(promise = 24, value = "the greatest.")
    static void boundIsTheGreatest() {
        WashLine w = house("k-w0t0:1-1w0t3:1-1w0t7:1-1", 0, 3, 0, 0, 2, 0, 0, 0, 1);
        Check.due("of the first", w.bound(0), 3);
        w.hung(0, 3, 4);
        Check.due("of a middle one", w.bound(0), 4);
        w.hung(0, 7, 5);
        Check.due("of the last", w.bound(0), 5);
        Check.monday(w, 0, 0, 40);
        Check.due("of that MONDAY alone", w.bound(0), 5);
    }

    @Says(promise = 24, value = "NONE: a THING that hung (DOUBT looked at) none hangs.")
    static void boundOfWhatNoneHangs() {
        WashLine w = house("k-w0t0:1-1", 0, 3, 0, 0, 0, 0, 0, 0, 1);
        Check.refused(w, "the last THING", NONE, () -> w.bound(0));
        w.hung(0, 7, 0);
        Check.due("none of it hung", w.bound(0), 3);
        Check.monday(w, 0, 1, 3, 0, 0, 0, 0, 0, 0, 1);
        Check.due("no more than DOUBT", w.bound(1), 2);
        Check.monday(w, 0, 1, 3, 0, 0, 0, 0, 0, 0, 2);
        Check.refused(w, "more than DOUBT", NONE, () -> w.bound(2));
        WashLine none = new WashLine();
        Check.monday(none, 0, 0, 1);
        Check.refused(none, "no SORT", NONE, () -> none.bound(0));
    }

    @Says(promise = 24, value = "BAD.")
    static void boundBad() {
        WashLine w = house("k-w0t0:1-1", 0, 1);
        for (int m : NO_MONDAYS) {
            Check.refused(w, "bound(" + m + ")", BAD, () -> w.bound(m));
        }
    }

    // ---- promise 25: many

    @Says(promise = 25, value = "How many HOUSEHOLDS are EXPLAINED on a MONDAY")
    static void manyFromNoneToAll() {
        WashLine w = house("k-k-k-k-k-k-", 0);
        Check.due("all", w.many(0, 0), 462);
        w.hung(0, 0, 1);
        Check.due("none", w.many(0, 9), 0);
        WashLine none = new WashLine();
        Check.monday(none, 0, 0);
        Check.due("no SORT", none.many(0, 0), 1);
        WashLine five = house("k-w0t0:1-1", 0, 6);
        Check.due("five and a GUEST alone", five.many(0, 9), 1);
        Check.due("one by ILL alone", ill().many(0, 9), 1);
    }

    /** Who hangs one at least of each THING, and is ILL. */
    private static WashLine ill() {
        return house("k-w0t0:1-9w0t1:1-1w0t2:0-1", 0, 0, 0, 1);
    }

    @Says(promise = 25, value = "for a PRICE (0 .. 9) at most.")
    static void manyByPrice() {
        WashLine w = house("k-w0t0:1-1", 0, 2);
        int[] due = {1, 1, 1, 1, 1, 1, 1, 1, 2, 3};
        for (int most = 0; most <= 9; most++) {
            Check.due("many(0, " + most + ")", w.many(0, most), due[most]);
        }
        w.price(3, 0);
        w.price(4, 0);
        Check.due("all for nothing", w.many(0, 0), 3);
    }

    @Says(promise = 25, value = "BAD.")
    static void manyBad() {
        WashLine w = house("k-w0t0:1-1", 0, 1);
        for (int m : NO_MONDAYS) {
            Check.refused(w, "many(" + m + ", 0)", BAD, () -> w.many(m, 0));
        }
        for (int most : new int[] {-1, 10, NONE, BIG, SMALL}) {
            Check.refused(w, "many(0, " + most + ")", BAD, () -> w.many(0, most));
        }
    }

    // ---- promise 26: step

    @Says(promise = 26, value = "The PRICE of a STEP from one HOUSEHOLD to another one")
    static void stepFromNobodyToFive() {
        WashLine w = Check.world("k1k-c99999");
        Check.due("nobody to five", w.step(0, 50), 45);
        Check.due("five to nobody", w.step(50, 0), 45);
        Check.due("five to five others, GROWN", w.step(5, 50), 45);
        Check.due("five to five others, GONE and COME", w.step(50, 5), 90);
        int house = 5;
        for (int sorts = 1; sorts <= 6; sorts++) {
            Check.lay(w, 0, "k-".repeat(sorts) + "c98765");
            w.world(0);
            Check.due("nobody to five, " + sorts + " SORTS", w.step(0, house), 45);
            Check.due("five to nobody, " + sorts + " SORTS", w.step(house, 0), 40);
            house *= 10;
        }
    }

    @Says(promise = 26, value = "(perhaps itself: 0)")
    static void stepToItself() {
        WashLine w = Check.world("k0k-k-k-k-k-c99999");
        for (int house : new int[] {0, 1, 5, 10, 100000, 500000, 11111}) {
            Check.due("step(" + house + ", " + house + ")", w.step(house, house), 0);
        }
        Check.due("a new object", new WashLine().step(0, 0), 0);
    }

    @Says(promise = 26, value = "BAD.")
    static void stepBad() {
        WashLine w = Check.world("k-k-");
        for (int house : NO_HOUSES) {
            Check.refused(w, "step(" + house + ", 0)", BAD, () -> w.step(house, 0));
            Check.refused(w, "step(0, " + house + ")", BAD, () -> w.step(0, house));
        }
    }
}

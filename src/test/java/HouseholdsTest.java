/** Promises 20 to 26: HOUSEHOLDS and MONDAYS, STEPS. */
public final class HouseholdsTest {
    private static final int NONE = WashLine.NONE;

    public static void main(String[] args) {
        hangs();
        noHouseholds();
        explains();
        explainsByPrice();
        explainsRefused();
        lacks();
        fewest();
        bound();
        many();
        step();
        stepInRings();
        stepInOtherWorlds();
        Check.end();
    }

    private static void hangs() {
        WashLine w = Check.world("k-k-w0t0:1-2w1t0:3-9w1t7:1-4i0");
        Check.due(w, "20 hangs", w.hangs(0, 0, 0), 0, 0);
        Check.due(w, "20 hangs", w.hangs(1, 0, 0), 1, 2);
        Check.due(w, "20 hangs", w.hangs(32, 0, 0), 11, 31);
        Check.due(w, "20 hangs in RAIN", w.hangs(32, 1, 0), 0, 31);
        Check.due(w, "20 hangs in RAIN", w.hangs(32, 1, 7), 3, 12);
        Check.due(w, "20 hangs", w.hangs(50, 0, 0), 15, 45);
        Check.due(w, "20 weather 2", w.hangs(0, 2, 0), -1, 45);
        Check.due(w, "20 weather -1", w.hangs(0, -1, 0), -1, 45);
        Check.due(w, "20 thing 8", w.hangs(0, 0, 8), -1, 45);
        Check.due(w, "20 thing -1", w.hangs(0, 0, -1), -1, 45);
    }

    private static void noHouseholds() {
        WashLine w = Check.world("k-k-k-k-k-k-");
        int[] good = {0, 5, 50, 500000, 100000, 111110, 111101, 100004, 311, 41, 14};
        for (int house : good) {
            Check.due("20 hangs(" + house + ")", w.hangs(house, 0, 0), 0);
            Check.due("39 doubts(" + house + ")", w.doubts(house), 0);
        }
        int[] bad = {-1, 6, 42, 9, 60, 111111, 600000, 1000000, -5, 1000001, Integer.MAX_VALUE, Integer.MIN_VALUE};
        for (int house : bad) {
            Check.due("20 hangs(" + house + ")", w.hangs(house, 0, 0), -1);
            Check.due("26 step(" + house + ", 0)", w.step(house, 0), -1);
            Check.due("26 step(0, " + house + ")", w.step(0, house), -1);
            Check.due("39 doubts(" + house + ")", w.doubts(house), -1);
        }
        Check.monday(w, 0, 0);
        for (int house : bad) {
            Check.due("21 explains(" + house + ")", w.explains(0, house), -1);
            Check.due("22 lacks(" + house + ")", w.lacks(0, house), -1);
            Check.due("32 through(" + house + ")", w.through(0, house), -1);
        }
        w = Check.world("k-k-");
        Check.due("20 a SORT that there is not", w.hangs(100, 0, 0), -1);
        Check.due("20 a SORT that there is not", w.hangs(101, 0, 0), -1);
        Check.due("20 hangs(5)", w.hangs(5, 0, 0), 0);
        w = new WashLine();
        Check.due("20 nobody at first", w.hangs(0, 1, 7), 0);
        Check.due("20 no SORT at first", w.hangs(1, 0, 0), -1);
    }

    private static void explains() {
        WashLine w = Check.world("k-k-w0t0:1-2w1t0:3-4w1t1:2-2");
        Check.monday(w, 0, 0, 2);
        Check.due(w, "21 by itself", w.explains(0, 1), 0, 0);
        Check.due(w, "21 by itself", w.explains(0, 2), 0, 0);
        Check.due(w, "21 ILL", w.explains(0, 3), 2, 10);
        Check.due(w, "21 nobody, a GUEST", w.explains(0, 0), 2, 20);
        Check.due(w, "21 not", w.explains(0, 4), NONE, 20);
        Check.due(w, "21 ILL of the second", w.explains(0, 10), 2, 11);
        w.hung(0, 1, 2);
        Check.due(w, "21 ILL of the second, least of t0 and t1 too", w.explains(0, 10), 2, 11);
        Check.due(w, "21 ILL of the second", w.explains(0, 11), 2, 11);
        w.hung(0, 0, 5);
        Check.due(w, "21 by itself", w.explains(0, 11), 0, 0);
        Check.due(w, "21 a GUEST of the second", w.explains(0, 2), 2, 21);
        Check.due(w, "21 a GUEST of the first", w.explains(0, 10), 2, 20);
        w.hung(0, 0, 12);
        w.hung(0, 1, 0);
        Check.due(w, "21 six with the GUEST", w.explains(0, 5), 2, 20);
        w.hung(0, 0, 13);
        Check.due(w, "21 not", w.explains(0, 5), NONE, 20);
        doubtExplains();
        rainExplains();
    }

    private static void doubtExplains() {
        WashLine w = Check.world("k-w0t0:3-4");
        Check.monday(w, 0, 2, 6);
        Check.monday(w, 0, 2, 7);
        Check.monday(w, 0, 2, 1);
        Check.monday(w, 0, 2, 0);
        Check.due(w, "21 DOUBT", w.explains(0, 1), 0, 0);
        Check.due(w, "21 DOUBT", w.explains(1, 1), 2, 20);
        Check.due(w, "21 DOUBT", w.explains(2, 1), 0, 20 - 20);
        Check.due(w, "21 DOUBT", w.explains(3, 1), 2, 10);
    }

    private static void rainExplains() {
        WashLine w = Check.world("k-w0t0:3-4w0t1:1-1i0");
        Check.monday(w, 1, 0, 0, 1);
        Check.monday(w, 0, 0, 0, 1);
        Check.due(w, "21 RAIN", w.explains(0, 1), 0, 0);
        Check.due(w, "21 dry", w.explains(1, 1), 2, 10);
        Check.due(w, "21 RAIN, a GUEST", w.explains(0, 0), 2, 20);
        Check.due(w, "21 dry, no GUEST", w.explains(1, 0), NONE, 20);
    }

    private static void explainsByPrice() {
        WashLine w = Check.world("k-k-w0t0:1-1w1t0:1-1");
        Check.monday(w, 0, 0, 1);
        Check.due(w, "21 ILL of the first", w.explains(0, 11), 2, 10);
        Check.due(w, "21 ILL of the second", w.explains(0, 20), 2, 11);
        Check.due(w, "21 a GUEST of the first", w.explains(0, 0), 2, 20);
        w.price(3, 9);
        w.price(4, 1);
        Check.due(w, "21 ILL, dearer", w.explains(0, 11), 9, 10);
        Check.due(w, "21 a GUEST, cheaper", w.explains(0, 0), 1, 20);
        w.price(3, 0);
        w.price(4, 0);
        Check.due(w, "21 ILL for nothing", w.explains(0, 20), 0, 11);
        Check.due(w, "21 a GUEST for nothing", w.explains(0, 0), 0, 20);
        Check.due(w, "21 by itself ahead of all for nothing", w.explains(0, 10), 0, 0);
        w = Check.world("k-k-w0t0:0-2w1t0:1-2c00000");
        Check.monday(w, 0, 0, 2);
        // By itself, by ILL and by a GUEST at once.
        Check.due(w, "21 by itself ahead of all", w.explains(0, 11), 0, 0);
        Check.monday(w, 0, 0, 4);
        Check.due(w, "21 a GUEST of the first", w.explains(1, 10), 0, 20);
    }

    private static void explainsRefused() {
        WashLine w = Check.world("k-w0t0:1-1");
        Check.due(w, "21 no MONDAY", w.explains(0, 0), -1, 0);
        Check.monday(w, 0, 0, 3);
        Check.due(w, "21 explains(1)", w.explains(1, 0), -1, 0);
        Check.due(w, "21 explains(-1)", w.explains(-1, 0), -1, 0);
        Check.due(w, "21 explains 10", w.explains(0, 10), -1, 0);
        Check.due(w, "21 a GUEST", w.explains(0, 2), 2, 20);
    }

    private static void lacks() {
        WashLine w = Check.world("k-k-w0t0:2-3w1t1:1-1w0t7:4-4w1t7:0-5i0");
        Check.due(w, "22 no MONDAY", w.lacks(0, 0), -1, 0);
        Check.monday(w, 0, 0, 1, 2, 1, 0, 0, 0, 0, 10);
        Check.due(w, "22 lacks", w.lacks(0, 11), 1, 2 | 4 | 128);
        Check.due(w, "22 lacks", w.lacks(0, 0), 0, 1 | 2 | 4 | 128);
        Check.due(w, "22 lacks", w.lacks(0, 30), 2, 1 | 4);
        Check.due(w, "22 lacks", w.lacks(0, 3), 1 | 128, 2 | 4);
        Check.monday(w, 0, 1, 1, 2, 1, 0, 0, 0, 0, 10);
        Check.due(w, "22 DOUBT", w.lacks(1, 11), 0, 0);
        Check.monday(w, 1, 0, 1, 2, 1, 0, 0, 0, 0, 10);
        Check.due(w, "22 RAIN", w.lacks(2, 11), 0, 2 | 4 | 128);
        Check.due(w, "22 lacks(3)", w.lacks(3, 11), -1, 2 | 4 | 128);
        Check.monday(w, 0, 0);
        Check.monday(w, 0, 0, 40);
        Check.due(w, "22 eight THINGS alone", w.lacks(3, 0), 0, 0);
        Check.due(w, "22 all too much", w.lacks(4, 0), 0, 1);
        Check.due(w, "22 lacks(-1)", w.lacks(-1, 11), -1, 1);
    }

    private static void fewest() {
        WashLine w = Check.world("k-k-k-w0t0:1-2w1t0:2-2w2t0:0-2");
        Check.due(w, "23 no MONDAY", w.fewest(0), -1, 0);
        Check.monday(w, 0, 0, 2);
        Check.due(w, "23 fewest", w.fewest(0), 1, 1);
        Check.monday(w, 0, 0, 4);
        Check.due(w, "23 fewest", w.fewest(1), 2, 2);
        Check.monday(w, 0, 0, 9);
        Check.due(w, "23 fewest", w.fewest(2), 5, 5);
        Check.monday(w, 0, 0, 10);
        Check.due(w, "23 fewest", w.fewest(3), 5, 5);
        Check.monday(w, 0, 0, 11);
        Check.due(w, "23 none", w.fewest(4), NONE, 0);
        Check.monday(w, 0, 1, 11);
        Check.due(w, "23 DOUBT", w.fewest(5), 5, 5);
        Check.monday(w, 0, 0);
        Check.due(w, "23 nobody", w.fewest(6), 0, 0);
        Check.due(w, "23 fewest(7)", w.fewest(7), -1, 0);
        Check.due(w, "23 fewest(-1)", w.fewest(-1), -1, 0);
        w = Check.world("k-k-k-w0t0:3-3w1t0:2-2w1t1:1-1w2t0:4-4w2t1:1-1");
        Check.monday(w, 0, 0, 4, 1);
        Check.due(w, "23 fewer people ahead of the lesser number", w.fewest(0), 1, 100);
        Check.monday(w, 0, 0, 7, 1);
        Check.due(w, "23 two", w.fewest(1), 2, 101);
    }

    private static void bound() {
        WashLine w = Check.world("k-k-w0t0:1-2w1t0:0-3w1t1:1-1");
        Check.due("24 no MONDAY", w.bound(0), -1);
        Check.monday(w, 0, 0);
        Check.due("24 none hung", w.bound(0), 0);
        Check.monday(w, 0, 0, 3, 1);
        Check.due("24 bound", w.bound(1), 1);
        Check.monday(w, 0, 0, 4);
        Check.due("24 bound", w.bound(2), 2);
        Check.monday(w, 0, 1, 4, 3);
        Check.due("24 DOUBT", w.bound(3), 2);
        Check.monday(w, 0, 0, 40);
        Check.due("24 bound above five", w.bound(4), 14);
        Check.monday(w, 0, 2, 0, 0, 2);
        Check.due("24 DOUBT of what none hangs", w.bound(5), 0);
        Check.monday(w, 0, 1, 0, 0, 2);
        Check.due("24 what none hangs", w.bound(6), NONE);
        Check.monday(w, 1, 0, 7, 1);
        Check.due("24 RAIN", w.bound(7), 3);
        Check.due("24 bound(8)", w.bound(8), -1);
        Check.due("24 bound(-1)", w.bound(-1), -1);
        Check.due("24 asked stays", w.asked(), 0);
        w = Check.world("k-k-w0t0:1-3w0t1:0-4w1t0:1-2");
        Check.monday(w, 0, 0, 3);
        Check.due("24 the most of the first SORT", w.bound(0), 1);
        Check.monday(w, 0, 0, 0, 8);
        Check.due("24 the most of the first SORT", w.bound(1), 2);
        Check.monday(w, 0, 0, 1);
        Check.due("24 one hung", w.bound(2), 1);
        Check.monday(w, 0, 0, 3, 9);
        Check.due("24 the greatest", w.bound(3), 3);
        Check.monday(w, 0, 0, 40);
        Check.due("24 of that MONDAY alone", w.bound(3), 3);
        w = new WashLine();
        Check.monday(w, 0, 0);
        Check.due("24 no SORT", w.bound(0), 0);
        Check.monday(w, 0, 0, 1);
        Check.due("24 no SORT", w.bound(1), NONE);
    }

    private static void many() {
        WashLine w = Check.world("k-w0t0:1-1c00035");
        Check.due("25 no MONDAY", w.many(0, 0), -1);
        Check.monday(w, 0, 0, 2);
        // 2 by itself, 3 by ILL, 1 by a GUEST.
        int[] due = {1, 1, 1, 2, 2, 3, 3, 3, 3, 3};
        for (int most = 0; most < 10; most++) {
            Check.due("25 many(0, " + most + ")", w.many(0, most), due[most]);
        }
        Check.due("25 most 10", w.many(0, 10), -1);
        Check.due("25 most -1", w.many(0, -1), -1);
        Check.due("25 many(1)", w.many(1, 0), -1);
        Check.due("25 many(-1)", w.many(-1, 0), -1);
        w.price(3, 0);
        Check.due("25 ILL for nothing", w.many(0, 0), 2);
        w = Check.world("k-k-k-k-k-k-");
        Check.monday(w, 0, 0);
        Check.due("25 all", w.many(0, 0), 462);
    }

    private static void step() {
        WashLine w = Check.world("k1k2k-k0");
        Check.due("26 none", w.step(0, 0), 0);
        Check.due("26 itself", w.step(1211, 1211), 0);
        Check.due("26 COME", w.step(0, 1), 3);
        Check.due("26 COMES", w.step(0, 12), 9);
        Check.due("26 GONE", w.step(12, 0), 9);
        Check.due("26 GROWN", w.step(1, 10), 1);
        Check.due("26 GROWN twice", w.step(1, 100), 2);
        Check.due("26 GROWN from the last", w.step(1000, 100), 3);
        Check.due("26 not back", w.step(10, 1), 6);
        Check.due("26 GROWN one behind the other", w.step(11, 110), 2);
        Check.due("26 GROWN and COME", w.step(1, 11), 3);
        Check.due("26 five grown", w.step(5, 500), 10);
        Check.due("26 five gone, five come", w.step(500, 5), 30);
        w.price(2, 9);
        Check.due("26 GROWN dearer than GONE and COME", w.step(1, 10), 6);
        w.price(2, 5);
        Check.due("26 once GROWN", w.step(1, 10), 5);
        Check.due("26 twice GROWN is dearer", w.step(1, 100), 6);
        w.price(0, 9);
        w.price(1, 8);
        Check.due("26 COME at 9", w.step(0, 4), 36);
        Check.due("26 GONE at 8", w.step(40, 0), 32);
        w.price(2, 9);
        Check.due("26 the dearest", w.step(500, 5), 85);
        w.price(1, 9);
        Check.due("26 the dearest", w.step(500, 5), 90);
        w = new WashLine();
        Check.due("26 no SORT", w.step(0, 0), 0);
        Check.due("26 no SORT", w.step(0, 1), -1);
    }

    /** The same object with ever more HOUSEHOLDS, then with fewer. */
    private static void stepInOtherWorlds() {
        WashLine w = new WashLine();
        String[] worlds = {"k-", "k-k1", "k-k-k-k-", "k-k-k-k-k-k-c45678", "k-k-"};
        int[] houses = {5, 50, 5000, 500000, 50};
        int[] due = {30, 30, 30, 45, 30};
        for (int i = 0; i < worlds.length; i++) {
            Check.lay(w, 0, worlds[i]);
            w.world(0);
            Check.due("26 step in " + worlds[i], w.step(houses[i], 5), i == 0 ? 0 : due[i]);
            Check.due("26 step in " + worlds[i], w.step(0, houses[i]), i == 3 ? 20 : 15);
            Check.due("26 step in " + worlds[i], w.step(houses[i], 0), i == 3 ? 25 : 15);
        }
    }

    private static void stepInRings() {
        WashLine w = Check.world("k1k2k0k3k-");
        w.price(0, 9);
        w.price(1, 9);
        Check.due("26 round", w.step(100, 1), 1);
        Check.due("26 round", w.step(10, 1), 2);
        Check.due("26 round, all five", w.step(50, 5), 10);
        Check.due("26 round, two of them on", w.step(122, 221), 2);
        Check.due("26 into itself", w.step(1000, 1000), 0);
        Check.due("26 into itself alone", w.step(1000, 1), 18);
        w = Check.world("k5k0k1k2k3k4c99999");
        Check.due("26 a ring of six", w.step(500000, 5), 90);
        w.price(2, 3);
        Check.due("26 a ring of six", w.step(5, 500000), 15);
        Check.due("26 a ring of six, round", w.step(500000, 5), 75);
    }
}

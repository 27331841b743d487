/** Promises 27 to 33: TALES. */
public final class TalesTest {
    private static final int NONE = WashLine.NONE;

    public static void main(String[] args) {
        withoutMondays();
        withoutTales();
        oneMonday();
        twoMondays();
        growing();
        growingDown();
        firstTale();
        tale();
        ways();
        waysSpent();
        sure();
        share();
        through();
        rival();
        firstQuestion();
        changes();
        Check.end();
    }

    private static void withoutMondays() {
        Check.due("29 ways of a new object", new WashLine().ways(), 1);
        Check.due("27 plain of a new object", new WashLine().plain(), 0);
        Check.due("28 tale of a new object", new WashLine().tale(5), 0);
        WashLine w = Check.world("k-");
        Check.due("27 plain", w.plain(), 0);
        Check.due("28 tale", w.tale(0), 0);
        Check.finds(w, "28 the row has no place", 0, w.at(0, 0), 2);
        Check.due("29 ways", w.ways(), 1);
        Check.due("29 tales", w.tales(), 1);
        Check.due("30 sure", w.sure(0, 0), -1);
        Check.due("31 share", w.share(0, 0, 0), -1);
        Check.due("32 through", w.through(0, 0), -1);
        Check.due("33 rival", w.rival(0), -1);
        Check.finds(w, "41 see", 0, w.see(0), 4);
    }

    private static void withoutTales() {
        WashLine w = Check.world("k-w0t0:1-1");
        Check.due("29 ways ahead", w.ways(), 1);
        Check.monday(w, 0, 0, 7);
        Check.due("27 plain", w.plain(), NONE);
        w.row(0, 2);
        Check.finds(w, "28 tale", 0, w.tale(0), 4);
        Check.due("28 the row stays", w.at(0, 1), 1);
        Check.finds(w, "28 tale into a missing row", 1, w.tale(1), 4);
        Check.due("28 the row is missing still", w.count(4), 2);
        Check.due("29 ways", w.ways(), 0);
        Check.due("29 tales", w.tales(), 0);
        Check.finds(w, "30 sure", 2, w.sure(0, 0), 4);
        Check.finds(w, "31 share", 3, w.share(0, 0, 0), 4);
        Check.due("31 upper stays", w.upper(), 0);
        Check.due("31 lower stays", w.lower(), 1);
        Check.due("32 through", w.through(0, 1), NONE);
        Check.finds(w, "33 rival", 4, w.rival(0), 4);
        Check.finds(w, "41 see", 5, w.see(0), 4);
        Check.monday(w, 0, 0, 1);
        Check.due("27 plain, the second alone AGREES", w.plain(), NONE);
        Check.due("32 through", w.through(1, 1), NONE);
        w.back(0);
        Check.due("27 plain", w.plain(), 0);
    }

    private static void oneMonday() {
        WashLine w = Check.world("k-w0t0:1-2");
        Check.monday(w, 0, 0, 4);
        // Two by themselves: 6; one and a GUEST: 5.
        Check.due("27 plain", w.plain(), 5);
        Check.due("28 tale", w.tale(3), 1);
        Check.due(w, "28 at", w.at(3, 0), 1, 1);
        w.price(4, 4);
        Check.due("27 plain", w.plain(), 6);
        w.tale(3);
        Check.due(w, "28 at", w.at(3, 0), 1, 2);
        w.price(4, 3);
        Check.due("27 plain", w.plain(), 6);
        w.tale(3);
        Check.due(w, "28 the first of alike ones", w.at(3, 0), 1, 1);
        Check.due("29 ways", w.ways(), 1);
        Check.due("29 tales", w.tales(), 2);
        w.price(0, 0);
        w.price(4, 0);
        // By a GUEST one, by itself two to four, by ILL (2) five.
        Check.due("27 plain for nothing", w.plain(), 0);
        w.ways();
        Check.due("29 tales for nothing", w.tales(), 4);
    }

    private static void twoMondays() {
        WashLine w = Check.world("k-w0t0:1-1");
        Check.monday(w, 0, 0, 1);
        Check.monday(w, 0, 0, 3);
        // 1, then 3: 3 + 6; 1, then 2 and a GUEST: 3 + 3 + 2; 2 (ILL), then a GUEST: 6 + 2 + 2.
        Check.due("27 plain", w.plain(), 8);
        w.tale(0);
        Check.due(w, "28 at", w.at(0, 0), 1, 1);
        Check.due(w, "28 at", w.at(0, 1), 1, 2);
        w.price(1, 0);
        w.hung(1, 0, 0);
        // Nobody and a GUEST, then nobody: 2.
        Check.due("27 plain", w.plain(), 2);
        w.price(4, 9);
        Check.due("27 GONE for nothing", w.plain(), 3);
    }

    private static void growing() {
        WashLine w = Check.world("k1k2k-w0t0:1-1w1t1:1-1w2t2:1-1c33188");
        Check.monday(w, 0, 0, 2);
        Check.monday(w, 0, 0, 0, 2);
        Check.monday(w, 0, 0, 0, 1, 1);
        Check.monday(w, 0, 0, 0, 0, 2);
        Check.due("27 plain", w.plain(), 6 + 2 + 1 + 1);
        w.tale(0);
        int[] due = {2, 20, 110, 200};
        for (int m = 0; m < 4; m++) {
            Check.due(w, "28 at", w.at(0, m), 1, due[m]);
        }
        Check.due("32 through", w.through(1, 20), 10);
        Check.due("32 through", w.through(3, 200), 10);
    }

    /** The last SORT grows into the one ahead of it, and that into the first. */
    private static void growingDown() {
        WashLine w = Check.world("k-k0k1w0t0:1-1w1t1:1-1w2t2:1-1c44188");
        Check.monday(w, 0, 0, 0, 0, 3);
        Check.monday(w, 0, 0, 3);
        Check.due("27 plain", w.plain(), 12 + 6);
        Check.due("28 tale", w.tale(0), 2);
        Check.due(w, "28 at", w.at(0, 0), 1, 300);
        Check.due(w, "28 at", w.at(0, 1), 1, 3);
        w.ways();
        Check.due("29 tales", w.tales(), 1);
        Check.due("32 through", w.through(0, 300), 18);
        Check.due("32 through", w.through(1, 3), 18);
    }

    /** Of alike TALES the first differs from the others on the first MONDAY already. */
    private static void firstTale() {
        WashLine w = Check.world("k-k-w0t0:1-1w1t0:1-1");
        Check.monday(w, 0, 0, 1);
        Check.monday(w, 0, 0, 1);
        Check.due("27 plain", w.plain(), 3);
        w.tale(0);
        Check.due(w, "28 at", w.at(0, 0), 1, 1);
        Check.due(w, "28 at", w.at(0, 1), 1, 1);
        w.ways();
        Check.due("29 tales", w.tales(), 2);
        w.price(0, 1);
        w.price(1, 1);
        w.price(4, 1);
        // Nobody twice with two GUESTS costs 2, one that stays 1.
        Check.due("27 plain", w.plain(), 1);
        w.price(4, 0);
        Check.due("27 plain", w.plain(), 0);
        w.tale(0);
        Check.due(w, "28 nobody, with GUESTS", w.at(0, 0), 1, 0);
        w.price(0, 0);
        w.price(1, 0);
        w.tale(0);
        Check.due(w, "28 nobody is the least number", w.at(0, 0), 1, 0);
        w.ways();
        // Nobody (a GUEST), 1, 10 on each of two MONDAYS.
        Check.due("29 tales", w.tales(), 9);
        w.price(3, 0);
        w.ways();
        // And two, one of whom is ILL: 2, 11, 20.
        Check.due("29 tales", w.tales(), 36);
    }

    private static void tale() {
        WashLine w = Check.world("k-w0t0:1-1");
        Check.due("28 tale(6)", w.tale(6), -1);
        Check.due("28 tale(-1)", w.tale(-1), -1);
        for (int m = 0; m < 12; m++) {
            Check.monday(w, 0, 0, 5 * (m % 2));
        }
        w.row(0, 40);
        w.lay(0, 20, 1);
        Check.due("28 tale anew", w.tale(0), 12);
        Check.finds(w, "28 no more places", 0, w.at(0, 12), 2);
        Check.due("28 a place", w.at(0, 11), 1);
        Check.due("28 a tale is no FINDING", w.findings(4), 0);
    }

    private static void ways() {
        WashLine w = Check.world("k-k-k-w0t0:1-1w1t0:1-1w2t0:1-1c33199");
        Check.monday(w, 0, 0, 2);
        Check.due("29 ways", w.ways(), 1);
        Check.due("29 of three two, in any way", w.tales(), 6);
        Check.monday(w, 0, 0, 1);
        w.ways();
        // Of 2, 20, 200 one stays, of 11, 101, 110 one of both.
        Check.due("29 tales", w.tales(), 9);
        Check.monday(w, 0, 0, 2);
        w.ways();
        Check.due("29 tales", w.tales(), 27);
        w.hung(0, 0, 40);
        Check.due("29 none", w.ways(), 0);
        Check.due("29 none", w.tales(), 0);
        Check.due("29 asked stays", w.asked(), 1 - 1);
    }

    private static void waysSpent() {
        WashLine w = Check.world("k-k-k-k-k-k-c00000");
        Check.monday(w, 0, 0);
        long due = 1;
        for (int m = 0; m < 5; m++) {
            due *= 462;
            Check.due("29 ways", w.ways(), 1);
            Check.due("29 tales", w.tales(), due);
            Check.monday(w, 0, 0);
        }
        Check.due("29 SPENT", w.ways(), WashLine.SPENT);
        Check.due("29 tales stays", w.tales(), due);
        Check.due("31 SPENT", w.share(0, 0, 0), WashLine.SPENT);
        Check.due("31 upper stays", w.upper(), 0);
        Check.due("31 BAD ahead of SPENT", w.share(0, 6, 0), -1);
        Check.due("29 no FINDING", w.finding(), 0);
        Check.due("30 sure", w.sure(5, 5), 0);
        Check.due("30 sure at most", w.asked(), 5);
        for (int m = 6; m < 12; m++) {
            Check.monday(w, 0, 0);
        }
        Check.due("29 SPENT by far", w.ways(), WashLine.SPENT);
        w.hung(3, 3, 40);
        Check.due("31 NOUGHT ahead of SPENT", w.share(0, 0, 0), WashLine.FINDING);
        Check.due("29 none", w.ways(), 0);
        exactlyAsMany();
    }

    /** Fifty and twenty HOUSEHOLDS by turns on ten MONDAYS: 10^15 TALES are told, and no more. */
    private static void exactlyAsMany() {
        WashLine w = Check.world("k-k-k-w0t0:1-1w1t0:1-1w2t0:1-1w0t1:1-1w1t2:1-1w2t3:1-1c00099");
        for (int pair = 0; pair < 5; pair++) {
            // Five people at most, 4, 3, 4 of each SORT; three people at most.
            Check.monday(w, 0, 3, 3, 1, 0, 1);
            Check.monday(w, 0, 3, 0, 1, 1, 1);
        }
        Check.due("29 many on a MONDAY", w.many(0, 0), 50);
        Check.due("29 many on a MONDAY", w.many(1, 0), 20);
        Check.due("29 as many as are told", w.ways(), 1);
        Check.due("29 as many as are told", w.tales(), 1000000000000000L);
        // One of the first SORT, not above five: 13 of 50; of the twenty 6.
        Check.due("31 share", w.share(0, 0, 1), 1);
        Check.due("31 upper", w.upper(), 7);
        Check.due("31 lower", w.lower(), 25);
        Check.due("31 share", w.share(1, 0, 1), 1);
        Check.due("31 upper", w.upper(), 3);
        Check.due("31 lower", w.lower(), 10);
        w.hung(8, 1, 2);
        Check.due("29 many on a MONDAY", w.many(8, 0), 51);
        Check.due("29 more than are told", w.ways(), WashLine.SPENT);
        Check.due("29 tales stays", w.tales(), 1000000000000000L);
        Check.due("31 more than are told", w.share(0, 0, 1), WashLine.SPENT);
        Check.due("31 upper stays", w.upper(), 3);
        Check.due("31 lower stays", w.lower(), 10);
    }

    private static void sure() {
        WashLine w = Check.world("k-k-w0t0:1-1w1t0:1-1");
        Check.monday(w, 0, 0, 3);
        Check.monday(w, 0, 0, 2);
        // Two and a GUEST, then two: 8; three, one ILL then: 11.
        Check.due("27 plain", w.plain(), 8);
        Check.due(w, "30 sure", w.sure(0, 0), 0, 2);
        Check.due(w, "30 sure", w.sure(1, 1), 0, 2);
        w.hung(0, 1, 1);
        Check.due("30 no TALE", w.sure(0, 0), WashLine.FINDING);
        Check.due("30 asked stays", w.asked(), 2);
        w.hung(0, 1, 0);
        Check.due(w, "30 sure(2, 0)", w.sure(2, 0), -1, 2);
        Check.due(w, "30 sure(-1, 0)", w.sure(-1, 0), -1, 2);
        Check.due(w, "30 sure(0, 2)", w.sure(0, 2), -1, 2);
        Check.due(w, "30 sure(0, -1)", w.sure(0, -1), -1, 2);
        w = Check.world("k-k-w0t0:2-2w1t0:2-2w0t1:0-1w1t2:0-1c33199");
        Check.monday(w, 0, 0, 10, 2, 2);
        // Five people, two of each SORT at least.
        Check.due(w, "30 sure", w.sure(0, 0), 2, 3);
        Check.due(w, "30 sure", w.sure(0, 1), 2, 3);
        w.hung(0, 1, 3);
        Check.due(w, "30 sure", w.sure(0, 0), 3, 3);
        Check.due(w, "30 sure", w.sure(0, 1), 2, 2);
        w = Check.world("k-w0t0:1-1c33199");
        Check.monday(w, 0, 0, 5);
        Check.due(w, "30 sure of five", w.sure(0, 0), 5, 5);
    }

    private static void fraction(WashLine w, int m, int s, int n, long upper, long lower) {
        String told = "31 share(" + m + ", " + s + ", " + n + ")";
        Check.due(told, w.share(m, s, n), 1);
        Check.due(told + ", then upper()", w.upper(), upper);
        Check.due(told + ", then lower()", w.lower(), lower);
    }

    private static void share() {
        WashLine w = Check.world("k-k-k-w0t0:1-1w1t0:1-1w2t0:1-1c33199");
        Check.monday(w, 0, 0, 2);
        // 2, 11, 20, 101, 110, 200.
        fraction(w, 0, 0, 0, 1, 2);
        fraction(w, 0, 0, 1, 1, 3);
        fraction(w, 0, 0, 2, 1, 6);
        fraction(w, 0, 0, 3, 0, 1);
        fraction(w, 0, 2, 5, 0, 1);
        fraction(w, 0, 2, 1, 1, 3);
        Check.monday(w, 0, 0, 3);
        Check.due("27 plain", w.plain(), 9);
        // To each of six one comes, one of three: 18 TALES.
        w.ways();
        Check.due("29 tales", w.tales(), 18);
        fraction(w, 1, 0, 0, 1, 3);
        fraction(w, 1, 0, 3, 1, 18);
        fraction(w, 1, 1, 1, 7, 18);
        fraction(w, 0, 1, 1, 1, 3);
        Check.due("31 asked stays", w.asked(), 0);
        Check.due("31 share(2, 0, 0)", w.share(2, 0, 0), -1);
        Check.due("31 share(-1, 0, 0)", w.share(-1, 0, 0), -1);
        Check.due("31 share(0, 3, 0)", w.share(0, 3, 0), -1);
        Check.due("31 share(0, -1, 0)", w.share(0, -1, 0), -1);
        Check.due("31 share(0, 0, 6)", w.share(0, 0, 6), -1);
        Check.due("31 share(0, 0, -1)", w.share(0, 0, -1), -1);
        Check.due("44 upper stays", w.upper(), 1);
        Check.due("45 lower stays", w.lower(), 3);
        w = Check.world("k-k-w0t0:1-1w1t0:1-1c33199");
        Check.monday(w, 0, 0, 1);
        fraction(w, 0, 0, 0, 1, 2);
        w.price(4, 0);
        w.price(0, 9);
        fraction(w, 0, 0, 0, 1, 1);
        fraction(w, 0, 0, 1, 0, 1);
    }

    private static void through() {
        WashLine w = Check.world("k-w0t0:1-1");
        Check.monday(w, 0, 0, 1);
        Check.monday(w, 0, 0, 2);
        // 1, then a GUEST: 5; nobody and a GUEST, then 1 and a GUEST: 7.
        Check.due("27 plain", w.plain(), 5);
        Check.due("32 through", w.through(0, 1), 5);
        Check.due("32 through", w.through(0, 0), 7);
        Check.due("32 through", w.through(0, 2), 8);
        Check.due("32 through", w.through(0, 3), NONE);
        Check.due("32 through", w.through(1, 1), 5);
        Check.due("32 through", w.through(1, 2), 6);
        Check.due("32 through", w.through(1, 3), 11);
        Check.due("32 through", w.through(1, 0), NONE);
        Check.due("32 through(2, 0)", w.through(2, 0), -1);
        Check.due("32 through(-1, 0)", w.through(-1, 0), -1);
        Check.due("32 asked stays", w.asked(), 0);
    }

    private static void rival() {
        WashLine w = Check.world("k-w0t0:1-1");
        Check.monday(w, 0, 0, 1);
        Check.monday(w, 0, 0, 2);
        Check.due(w, "33 rival", w.rival(0), 7, 0);
        Check.due(w, "33 rival", w.rival(1), 6, 2);
        Check.due(w, "33 rival(2)", w.rival(2), -1, 2);
        Check.due(w, "33 rival(-1)", w.rival(-1), -1, 2);
        w = Check.world("k-k-k-w0t0:1-1w1t0:1-1w2t0:1-1");
        Check.monday(w, 0, 0, 1);
        // Nobody and a GUEST: 2; then all three that come for 3.
        w.tale(0);
        Check.due(w, "33 first", w.at(0, 0), 1, 0);
        Check.due(w, "33 the least number of alike ones", w.rival(0), 3, 1);
        w.price(4, 9);
        w.tale(0);
        Check.due(w, "33 first", w.at(0, 0), 1, 1);
        Check.due(w, "33 as PLAIN as the first", w.rival(0), 3, 10);
        w = Check.world("k-w0t0:2-2");
        Check.monday(w, 0, 0, 10);
        Check.due(w, "33 four and a GUEST, five", w.rival(0), 15, 5);
        w.hung(0, 0, 12);
        Check.due("27 plain", w.plain(), 17);
        Check.due("33 none", w.rival(0), NONE);
        Check.due("33 asked stays", w.asked(), 5);
    }

    /** Each question is the first behind a change once. */
    private static void firstQuestion() {
        for (int question = 0; question < 8; question++) {
            WashLine w = Check.world("k-w0t0:1-1");
            Check.monday(w, 0, 0, 0);
            Check.due("27 plain", w.plain(), 0);
            w.ways();
            w.hung(0, 0, 3);
            w.price(4, 3);
            String told = "question " + question;
            if (question == 0) {
                Check.due(told, w.plain(), 9);
            } else if (question == 1) {
                w.tale(0);
                Check.due(w, told, w.at(0, 0), 1, 2);
            } else if (question == 2) {
                w.ways();
                Check.due(told, w.tales(), 2);
            } else if (question == 3) {
                Check.due(w, told, w.sure(0, 0), 2, 3);
            } else if (question == 4) {
                fraction(w, 0, 0, 3, 1, 2);
            } else if (question == 5) {
                Check.due(told, w.through(0, 4), 14);
            } else if (question == 6) {
                Check.due(w, told, w.rival(0), 9, 3);
            } else {
                Check.due(w, told, w.see(0), 0, 1);
            }
        }
    }

    /** What was worked out is not kept when something changes. */
    private static void changes() {
        WashLine w = Check.world("k-k1w0t0:1-1w1t0:2-2");
        Check.monday(w, 0, 0, 2);
        Check.due("27 plain", w.plain(), 2);
        w.price(4, 5);
        Check.due("27 plain, price", w.plain(), 3);
        w.ways();
        Check.due("29 tales, price", w.tales(), 1);
        w.hung(0, 0, 4);
        Check.due("27 plain, hung", w.plain(), 6);
        Check.due("26 step", w.step(0, 2), 6);
        w.price(0, 1);
        Check.due("26 step, price", w.step(0, 2), 2);
        Check.due("27 plain, price", w.plain(), 2);
        Check.monday(w, 0, 0, 1);
        // Two of the second SORT, then one of them is gone and the other is ILL.
        Check.due("27 plain, monday", w.plain(), 7);
        w.back(1);
        Check.due("27 plain, back", w.plain(), 2);
        Check.due("28 tale, back", w.tale(0), 1);
        Check.lay(w, 3, "k-");
        w.world(3);
        Check.due("27 plain, world", w.plain(), 0);
        Check.due("26 step, world", w.step(0, 2), 6);
    }
}

/** Promises 42 to 49: what the object tells of its latest calls and of all that it holds. */
public final class ToldTest {
    private static long h;

    public static void main(String[] args) {
        asked();
        askedStays();
        talesAndFractions();
        count();
        findings();
        findingStays();
        digestOfNew();
        digestOfAll();
        digestChanges();
        constants();
        Check.end();
    }

    /** A small object in which every call that tells has something to tell. */
    private static WashLine some() {
        WashLine w = Check.world("k1k-w0t0:1-2w1t0:3-4w1t1:1-1");
        Check.monday(w, 1, 2, 3);
        w.happen(4, 6, 7, 2);
        w.row(0, 2);
        w.lay(0, 0, 50);
        w.lay(0, 1, 70);
        return w;
    }

    private static void asked() {
        WashLine w = some();
        w.lay(0, 1, 71);
        Check.due("42 lay", w.asked(), 70);
        w.at(0, 0);
        Check.due("42 at", w.asked(), 50);
        w.mean(0);
        Check.due("42 mean", w.asked(), 60);
        w.wears(1, 0);
        Check.due("42 wears", w.asked(), 4);
        w.told(0, 1);
        Check.due("42 told", w.asked(), 2);
        w.hangs(11, 0, 0);
        Check.due("42 hangs", w.asked(), 6);
        w.hung(0, 0, 9);
        w.explains(0, 11);
        Check.due("42 explains", w.asked(), 20);
        w.lacks(0, 11);
        Check.due("42 lacks", w.asked(), 1);
        w.fewest(0);
        Check.due("42 fewest", w.asked(), 20);
        w.sure(0, 1);
        Check.due("42 sure", w.asked(), 1);
        w.rival(0);
        Check.due("42 rival", w.asked(), 20);
        w.event(0, 2);
        Check.due("42 event", w.asked(), 7);
        w.judge();
        Check.due("42 judge", w.asked(), 0);
        w.hung(0, 7, 1);
        w.least();
        Check.due("42 least", w.asked(), 1);
        w.see(0);
        Check.due("42 see", w.asked(), 0);
    }

    /** Calls that do not tell by asked(), or that are refused, or answer NONE. */
    private static void askedStays() {
        WashLine w = some();
        w.row(5, 1);
        w.lay(5, 0, 12345);
        w.at(5, 0);
        w.put(3, 0, 107);
        w.fault(3);
        w.copy(5, 0, 5, 0, 1);
        w.grows(0);
        w.indoors();
        w.price(0, -9);
        w.hung(0, 0, 3);
        w.bound(0);
        w.many(0, 3);
        w.step(0, 1);
        w.plain();
        w.tale(4);
        w.ways();
        w.share(0, 0, 0);
        w.through(0, 1);
        w.mark(0, 6);
        w.household(0);
        w.doubts(0);
        w.count(0);
        w.finding();
        w.findings(1);
        w.digest();
        w.asked();
        Check.due("42 calls that do not tell", w.asked(), 12345);
        w.lay(5, 1, 1);
        w.at(6, 0);
        w.at(1, 0);
        w.mean(3);
        w.wears(2, 0);
        w.told(0, 10);
        w.hangs(6, 0, 0);
        w.lacks(1, 0);
        w.sure(1, 0);
        w.event(1, 0);
        w.see(2);
        Check.due("42 refused", w.asked(), 12345);
        w.hung(0, 7, 40);
        w.explains(0, 0);
        w.fewest(0);
        w.rival(0);
        Check.due("42 NONE", w.asked(), 12345);
        w.back(0);
        w.judge();
        Check.due("42 judge, NONE", w.asked(), 12345);
        w.world(3);
        w.monday(0, 5, 0);
        Check.due("42 world, monday", w.asked(), 12345);
    }

    private static void talesAndFractions() {
        WashLine w = Check.world("k-k-k-w0t0:1-1w1t0:1-1w2t0:1-1c33199");
        Check.monday(w, 0, 0, 1);
        Check.due("43 tales", w.tales(), 0);
        Check.due("44 upper", w.upper(), 0);
        Check.due("45 lower", w.lower(), 1);
        w.share(0, 0, 0);
        Check.due("43 share is not ways", w.tales(), 0);
        Check.due("44 upper", w.upper(), 2);
        Check.due("45 lower", w.lower(), 3);
        w.ways();
        Check.due("43 tales", w.tales(), 3);
        Check.due("44 ways is not share", w.upper(), 2);
        Check.due("45 ways is not share", w.lower(), 3);
        w.hung(0, 0, 2);
        Check.due("43 tales of then", w.tales(), 3);
        Check.due("44 upper of then", w.upper(), 2);
        w.share(0, 3, 0);
        w.share(0, 0, 6);
        Check.due("44 upper, refused", w.upper(), 2);
        w.share(0, 0, 5);
        Check.due("44 none", w.upper(), 0);
        Check.due("45 by one", w.lower(), 1);
    }

    private static void count() {
        WashLine w = Check.world("k-k-k-");
        for (int m = 0; m < 2; m++) {
            Check.monday(w, 0, 0);
        }
        for (int kind = 0; kind <= 6; kind++) {
            w.happen(0, kind, 0, 1);
        }
        w.happen(1, 5, 0, 0);
        w.row(0, 0);
        w.row(2, 9);
        w.row(3, 9);
        w.text(0, 0);
        int[] due = {3, 2, 8, 3, 4, 2};
        for (int what = 0; what < 6; what++) {
            Check.due("46 count(" + what + ")", w.count(what), due[what]);
        }
        Check.due("46 count(6)", w.count(6), -1);
        Check.due("46 count(-1)", w.count(-1), -1);
        w.tear(0);
        Check.due("46 count(4)", w.count(4), 3);
        w = Check.world("k-");
        w.happen(0, 1, 0, 0);
        w.happen(0, 5, 0, 0);
        Check.due("46 COMES from the first on", w.count(3), 2);
        w.world(3);
        Check.due("46 COMES anew", w.count(3), 0);
        Check.due("46 HAPPENINGS anew", w.count(2), 0);
        Check.due("37 household anew", w.household(0), 0);
    }

    private static void findings() {
        WashLine w = new WashLine();
        Check.due("47 finding", w.finding(), 0);
        w.at(0, 0);
        Check.due("47 finding", w.finding(), 1);
        w.row(0, 0);
        w.at(0, 0);
        Check.due("47 finding", w.finding(), 2);
        w.happen(0, 0, 0, 0);
        w.mark(0, 1);
        Check.due("47 finding", w.finding(), 3);
        w.mean(0);
        Check.due("47 finding", w.finding(), 4);
        w.row(0, -1);
        Check.due("47 finding", w.finding(), 5);
        w.mean(0);
        w.mean(0);
        w.tear(0);
        w.mean(0);
        int[] due = {2, 1, 1, 3, 1};
        for (int f = 1; f <= 5; f++) {
            Check.due("48 findings(" + f + ")", w.findings(f), due[f - 1]);
        }
        Check.due("48 findings(0)", w.findings(0), -1);
        Check.due("48 findings(6)", w.findings(6), -1);
        Check.due("48 findings(-1)", w.findings(-1), -1);
        Check.due("47 finding", w.finding(), 1);
    }

    private static void findingStays() {
        WashLine w = Check.world("k-k-k-k-k-k-c00000");
        w.mean(0);
        w.row(0, 0);
        w.mean(0);
        w.row(9, 0);
        Check.due("47 BAD is no FINDING", w.finding(), 4);
        for (int m = 0; m < 13; m++) {
            Check.monday(w, 0, 9);
        }
        Check.due("47 FULL is no FINDING", w.finding(), 4);
        w.ways();
        Check.due("47 SPENT is no FINDING", w.finding(), 4);
        w.put(3, 0, 0);
        w.world(3);
        Check.due("47 STATE is no FINDING", w.finding(), 4);
        w.hung(0, 0, 40);
        w.plain();
        w.fewest(0);
        Check.due("47 NONE is no FINDING", w.finding(), 4);
        Check.due("48 findings(1)", w.findings(1), 1);
        Check.due("48 findings(4)", w.findings(4), 1);
    }

    private static void digestOfNew() {
        h = 17;
        add(0, 0, 0, 0, 0, 0);
        add(0);
        add(3, 3, 1, 2, 2);
        add(-1, -1, -1, -1, -1, -1);
        add(-1, -1, -1, -1);
        Check.due("49 digest", new WashLine().digest(), h);
    }

    private static void add(long... values) {
        for (long v : values) {
            h = 31 * h + v;
        }
    }

    private static void digestOfAll() {
        WashLine w = new WashLine();
        String text = "k1 k-w0t1:2-3w1t7:0-9i6c12345";
        Check.lay(w, 2, text);
        w.world(2);
        w.row(1, 8);
        w.lay(1, 3, 40);
        w.monday(1, 1, 7);
        w.monday(0, 1, 0);
        w.lay(1, 4, -5);
        w.row(5, 0);
        w.happen(3, 6, 4, 5);
        w.happen(11, 5, 1, 9);
        w.happen(2, 0, 1, 9);
        w.text(0, 2);
        w.put(0, 1, 200);
        w.price(1, 8);
        w.at(1, 4);
        h = 17;
        add(2, 2, 3, 1, 2, 2);
        add(1, 0, 0, 2, 3, 0, 0, 0, 0, 0, 0, 0, 0, 0, 0, 0, 0);
        add(-9, 0, 0, 0, 0, 0, 0, 0, 0, 0, 0, 0, 0, 0, 0, 0, 9);
        add(64);
        add(1, 8, 3, 4, 5);
        add(1, 7, 0, 0, 0, 40, 0, 0, 0, 0);
        add(0, 0, 0, 0, 0, 40, 0, 0, 0, 0);
        add(6, 3, 4, 5);
        add(5, 11, 1, 0);
        add(0, 2, 0, 0);
        add(-1);
        add(8, 0, 0, 0, 40, -5, 0, 0, 0);
        add(-1, -1, -1);
        add(0);
        add(2, 32, -56);
        add(-1);
        add(text.length());
        for (int i = 0; i < text.length(); i++) {
            add(text.charAt(i));
        }
        add(-1);
        Check.due("49 digest", w.digest(), h);
        Check.due("49 asked stays", w.asked(), -5);
    }

    /** What is asked, and what is refused, changes nothing that the digest tells. */
    private static void digestChanges() {
        WashLine w = some();
        long before = w.digest();
        w.plain();
        w.ways();
        w.sure(0, 0);
        w.share(0, 0, 1);
        w.see(0);
        w.rival(0);
        w.judge();
        w.least();
        w.household(3);
        w.mark(0, 6);
        w.fault(3);
        w.mean(0);
        w.row(0, 41);
        w.row(0, -1);
        w.lay(0, 2, 1);
        w.copy(0, 0, 0, 1, 2);
        w.text(3, -1);
        w.put(3, 120, 1);
        w.hung(0, 0, 41);
        w.price(0, 10);
        w.back(2);
        w.monday(0, 0, 0);
        w.happen(0, 7, 0, 0);
        w.tale(6);
        Check.due("49 digest stays", w.digest(), before);
        w.tale(4);
        Check.holds("49 digest changes", w.digest() != before);
    }

    private static void constants() {
        Check.due("BAD", WashLine.BAD, -1);
        Check.due("FULL", WashLine.FULL, -2);
        Check.due("FINDING", WashLine.FINDING, -3);
        Check.due("STATE", WashLine.STATE, -4);
        Check.due("SPENT", WashLine.SPENT, -6);
        Check.due("NONE", WashLine.NONE, -9);
    }
}

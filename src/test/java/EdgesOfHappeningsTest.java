/** HAPPENINGS and the TOLD household, promises 34 to 38: their boundary cases, sentence by sentence. */
public final class EdgesOfHappeningsTest {
    private static final int BAD = WashLine.BAD, FULL = WashLine.FULL, NONE = WashLine.NONE;
    private static final int UNLIKE = 3;
    private static final int NOTE = 0, COME = 1, GONE = 2, GROWN = 3, ILL = 4, GUEST = 5, HANDED = 6;
    private static final int BIG = Integer.MAX_VALUE, SMALL = Integer.MIN_VALUE;

    public static void main(String[] args) {
        Edges.run(EdgesOfHappeningsTest.class);
    }

    /** So many of the first SORT come on MONDAY 0. */
    private static WashLine home(String world, int people) {
        WashLine w = Check.world(world);
        for (int k = 0; k < people; k++) {
            w.happen(0, COME, 0, 0);
        }
        return w;
    }

    private static void off(WashLine w, String name, int monday, int thing) {
        Check.due(w, name, w.judge(), monday, thing);
    }

    private static void agrees(WashLine w, String name) {
        Check.refused(w, name, NONE, w::judge);
    }

    // ---- the terms: HAPPENINGS

    @Says("HAPPENINGS 0, 1, .. (16 at most)")
    static void sixteenHappenings() {
        WashLine w = Check.world("k-");
        for (int e = 0; e < 15; e++) {
            Check.due("HAPPENING " + e, w.happen(0, NOTE, 0, 0), e);
        }
        Check.due("the sixteenth", w.happen(11, COME, 0, 0), 15);
        Check.refused(w, "a seventeenth", FULL, () -> w.happen(0, NOTE, 0, 0));
        Check.due("count(2)", w.count(2), 16);
        Check.due("household(11)", w.household(11), 1);
    }

    @Says("are told for a MONDAY (0 .. 11)")
    static void happeningsOfTwelveMondays() {
        WashLine w = Check.world("k-");
        for (int m = 0; m < 12; m++) {
            Check.due("of MONDAY " + m + ", that there is not yet", w.happen(m, NOTE, 0, 0), m);
            Check.due(w, "event(" + m + ", 1)", w.event(m, 1), 1, m);
        }
        Check.refused(w, "of MONDAY 12", BAD, () -> w.happen(12, NOTE, 0, 0));
        Check.refused(w, "of MONDAY -1", BAD, () -> w.happen(-1, NOTE, 0, 0));
    }

    @Says("KINDS: 0 HAPPENING (a note), 1 COME (a HAPPENING: a SORT), 2 GONE (a HAPPENING: a SORT), "
        + "3 GROWN (a HAPPENING: of a SORT), 4 ILL (a HAPPENING: a SORT)")
    static void kindsOfHappenings() {
        WashLine w = Check.world("k1k-");
        for (int kind = 0; kind <= 6; kind++) {
            w.happen(0, kind, 1, 0);
            Check.due(w, "event(" + kind + ", 0)", w.event(kind, 0), 1, kind);
        }
        Check.refused(w, "KIND 7", BAD, () -> w.happen(0, 7, 1, 0));
        Check.refused(w, "KIND -1", BAD, () -> w.happen(0, -1, 1, 0));
        WashLine note = home("k1k-", 1);
        note.happen(0, NOTE, 0, 0);
        Check.due("a note changes nothing", note.household(0), 1);
        note.happen(1, ILL, 0, 0);
        Check.due("an ILL one stays", note.household(1), 1);
        note.happen(2, COME, 0, 0);
        Check.due("COME", note.household(2), 2);
        note.happen(3, GROWN, 0, 0);
        Check.due("GROWN", note.household(3), 11);
        note.happen(4, GONE, 0, 0);
        Check.due("GONE", note.household(4), 10);
    }

    @Says("5 GUEST (a COME: for that MONDAY alone)")
    static void guestForThatMondayAlone() {
        WashLine w = Check.world("k-w0t0:1-1");
        w.happen(1, GUEST, 0, 0);
        Check.monday(w, 0, 0);
        Check.monday(w, 0, 0, 1);
        Check.monday(w, 0, 0);
        agrees(w, "not ahead of it, not behind it");
        Check.due("household(1)", w.household(1), 0);
        Check.due("household(2)", w.household(2), 0);
        w.hung(1, 0, 0);
        off(w, "on that MONDAY", 1, 0);
        Check.due("a COME, too", w.count(3), 1);
        Check.due("mark(0, COME)", w.mark(0, COME), 0);
    }

    @Says("6 HANDED (a HAPPENING: from that MONDAY on one of a THING less hangs at least and at most")
    static void handedFromThatMondayOn() {
        WashLine w = home("k-w0t0:2-4", 1);
        w.happen(1, HANDED, 0, 7);
        Check.monday(w, 0, 0, 2);
        Check.monday(w, 0, 0, 1, 0, 0, 0, 0, 0, 0, 1);
        Check.monday(w, 0, 0, 3, 0, 0, 0, 0, 0, 0, 1);
        agrees(w, "as many as ever ahead of it, one less at least and at most behind it");
        w.hung(0, 0, 1);
        off(w, "one less ahead of it", 0, 0);
        w.hung(0, 0, 4);
        agrees(w, "as many as ever at most ahead of it");
        w.hung(1, 0, 0);
        off(w, "two less on that MONDAY", 1, 0);
        w.hung(1, 0, 1);
        w.hung(2, 0, 4);
        off(w, "as many as ever at most behind it", 2, 0);
    }

    @Says("no less than 0")
    static void handedNoLessThanNone() {
        WashLine w = home("k-w0t0:0-1", 1);
        for (int k = 0; k < 3; k++) {
            w.happen(0, HANDED, 0, 1);
        }
        w.happen(0, HANDED, 2, 0);
        // From 0 to 1 down to none three times, then one more: not to one, less two.
        Check.monday(w, 0, 0, 1, 3, 0);
        agrees(w, "one");
        w.hung(0, 0, 0);
        off(w, "at least one", 0, 0);
        w.hung(0, 0, 2);
        off(w, "at most one", 0, 0);
        WashLine least = home("k-w0t0:0-5", 1);
        least.happen(0, HANDED, 0, 1);
        least.happen(0, HANDED, 2, 0);
        Check.monday(least, 0, 0, 1, 1);
        agrees(least, "one at least");
        least.hung(0, 0, 0);
        off(least, "none is less than one at least", 0, 0);
        least.hung(0, 0, 5);
        agrees(least, "five at most");
    }

    @Says("one of another THING more)")
    static void handedOneMore() {
        WashLine w = home("k-w0t7:1-2", 1);
        w.happen(0, HANDED, 0, 7);
        Check.monday(w, 0, 0, 0, 0, 0, 0, 0, 0, 0, 2);
        agrees(w, "one more at least");
        w.hung(0, 7, 1);
        off(w, "as many as ever at least", 0, 7);
        w.hung(0, 7, 3);
        agrees(w, "one more at most");
        w.hung(0, 7, 4);
        off(w, "two more at most", 0, 7);
        WashLine nobody = new WashLine();
        nobody.happen(0, HANDED, 0, 1);
        Check.monday(nobody, 0, 0, 0, 1);
        agrees(nobody, "nobody, and one more");
    }

    // ---- the terms: the TOLD household

    @Says("The TOLD household of a MONDAY: nobody at first")
    static void toldNobodyAtFirst() {
        WashLine w = new WashLine();
        Check.due("a new object", w.household(0), 0);
        Check.due("a new object", w.household(11), 0);
        WashLine later = Check.world("k-");
        later.happen(1, COME, 0, 0);
        Check.due("ahead of who comes first", later.household(0), 0);
        Check.due("with who comes first", later.household(1), 1);
    }

    @Says("all that is told of MONDAYS till that one, as told, MONDAY by MONDAY")
    static void toldMondayByMonday() {
        WashLine w = Check.world("k1k-");
        w.happen(11, GONE, 1, 0);
        w.happen(5, GROWN, 0, 0);
        w.happen(0, COME, 0, 0);
        Check.due("household(0)", w.household(0), 1);
        Check.due("household(4)", w.household(4), 1);
        Check.due("household(5)", w.household(5), 10);
        Check.due("household(10)", w.household(10), 10);
        Check.due("household(11)", w.household(11), 0);
        WashLine same = Check.world("k-");
        same.happen(3, GONE, 0, 0);
        same.happen(3, COME, 0, 0);
        Check.refused(same, "GONE told ahead of COME of the same MONDAY", NONE, () -> same.household(3));
    }

    @Says("GONE, GROWN of nobody")
    static void brokenByNobody() {
        WashLine gone = home("k1k-", 1);
        gone.happen(1, GONE, 0, 0);
        Check.due("GONE of the last one", gone.household(1), 0);
        gone.happen(1, GONE, 0, 0);
        Check.refused(gone, "GONE of nobody", NONE, () -> gone.household(1));
        WashLine other = home("k1k-", 1);
        other.happen(1, GONE, 1, 0);
        Check.refused(other, "GONE of a SORT of which nobody is there", NONE, () -> other.household(1));
        WashLine grown = home("k1k-", 1);
        grown.happen(1, GROWN, 0, 0);
        Check.due("GROWN of the last one", grown.household(1), 10);
        grown.happen(1, GROWN, 0, 0);
        Check.refused(grown, "GROWN of nobody", NONE, () -> grown.household(1));
        WashLine guest = Check.world("k1k-");
        guest.happen(0, GUEST, 0, 0);
        guest.happen(0, GONE, 0, 0);
        Check.refused(guest, "GONE of a GUEST alone", NONE, () -> guest.household(0));
    }

    @Says("a sixth one that comes")
    static void brokenByASixth() {
        WashLine w = home("k1k-", 5);
        Check.due("five", w.household(0), 5);
        w.happen(1, COME, 1, 0);
        Check.refused(w, "a sixth", NONE, () -> w.household(1));
        Check.due("five ahead of it", w.household(0), 5);
        WashLine guests = home("k1k-", 5);
        guests.happen(0, GUEST, 0, 0);
        guests.happen(0, GUEST, 0, 0);
        Check.due("GUESTS beside five", guests.household(0), 5);
        guests.happen(1, GROWN, 0, 0);
        Check.due("GROWN among five", guests.household(1), 14);
        guests.happen(2, GONE, 0, 0);
        guests.happen(2, COME, 1, 0);
        Check.due("one GONE, one comes", guests.household(2), 23);
        guests.happen(3, COME, 1, 0);
        guests.happen(3, GONE, 1, 0);
        Check.refused(guests, "one comes, then one GONE", NONE, () -> guests.household(3));
    }

    @Says("GROWN into none")
    static void brokenByGrownIntoNone() {
        WashLine w = home("k-", 1);
        w.happen(1, GROWN, 0, 0);
        Check.due("ahead of it", w.household(0), 1);
        Check.refused(w, "GROWN into none", NONE, () -> w.household(1));
        WashLine never = home("k5", 1);
        never.happen(0, GROWN, 0, 0);
        Check.refused(never, "GROWN into a SORT never told", NONE, () -> never.household(0));
        WashLine itself = home("k0", 5);
        itself.happen(0, GROWN, 0, 0);
        Check.due("GROWN into itself", itself.household(0), 5);
    }

    @Says("BROKEN on that MONDAY.")
    static void brokenOnThatMonday() {
        WashLine w = home("k-", 1);
        w.happen(5, GONE, 0, 0);
        w.happen(5, GONE, 0, 0);
        w.happen(6, COME, 0, 0);
        Check.due("household(4)", w.household(4), 1);
        Check.refused(w, "household(5)", NONE, () -> w.household(5));
        Check.refused(w, "household(6), though one comes", NONE, () -> w.household(6));
        for (int m = 0; m < 5; m++) {
            Check.monday(w, 0, 0);
        }
        agrees(w, "five MONDAYS");
        Check.monday(w, 0, 0);
        off(w, "six MONDAYS", 5, NONE);
    }

    // ---- the terms: what it HANGS

    @Says("On a MONDAY it HANGS: all its people and GUESTS of that MONDAY together")
    static void hangsWithGuests() {
        WashLine w = home("k-k-w0t0:1-2w1t0:3-4", 5);
        for (int k = 0; k < 10; k++) {
            w.happen(0, GUEST, 1, 0);
        }
        Check.monday(w, 0, 0, 35);
        agrees(w, "five and ten GUESTS at least");
        w.hung(0, 0, 34);
        off(w, "one less", 0, 0);
        w.hung(0, 0, 40);
        agrees(w, "forty");
        WashLine most = home("k-k-w0t0:1-2w1t0:3-4", 5);
        most.happen(0, GUEST, 1, 0);
        Check.monday(most, 0, 0, 14);
        agrees(most, "five and a GUEST at most");
        most.hung(0, 0, 15);
        off(most, "one more", 0, 0);
        WashLine nobody = Check.world("k-w0t0:1-1");
        nobody.happen(0, GUEST, 0, 0);
        Check.monday(nobody, 0, 0, 1);
        agrees(nobody, "nobody and a GUEST");
        nobody.hung(0, 0, 0);
        off(nobody, "the GUEST hangs", 0, 0);
    }

    @Says("at least of each ILL one of that MONDAY")
    static void illOfThatMonday() {
        WashLine w = home("k-w0t0:2-3", 2);
        w.happen(1, ILL, 0, 0);
        Check.monday(w, 0, 0, 4);
        Check.monday(w, 0, 0, 2);
        Check.monday(w, 0, 0, 4);
        agrees(w, "one ILL on MONDAY 1 alone");
        w.hung(1, 0, 1);
        off(w, "the other one hangs two", 1, 0);
        w.hung(1, 0, 6);
        agrees(w, "at most as ever");
        w.hung(1, 0, 7);
        off(w, "at most no more than ever", 1, 0);
        w.hung(1, 0, 2);
        w.hung(0, 0, 3);
        off(w, "not ahead of it", 0, 0);
        w.hung(0, 0, 4);
        w.hung(2, 0, 3);
        off(w, "not behind it", 2, 0);
    }

    @Says("(no more than there are of its SORT, GUESTS not counted)")
    static void illNoMoreThanThere() {
        WashLine w = home("k-k-w0t0:1-1w1t0:2-2", 1);
        w.happen(0, COME, 1, 0);
        for (int k = 0; k < 3; k++) {
            w.happen(0, ILL, 0, 0);
        }
        Check.monday(w, 0, 0, 2);
        agrees(w, "the one of the other SORT still hangs");
        w.hung(0, 0, 1);
        off(w, "three ILL are one", 0, 0);
        w.happen(0, GUEST, 0, 0);
        w.hung(0, 0, 3);
        agrees(w, "a GUEST still hangs");
        w.hung(0, 0, 2);
        off(w, "a GUEST is not ILL", 0, 0);
        WashLine nobody = Check.world("k-w0t0:1-1");
        nobody.happen(0, ILL, 0, 0);
        nobody.happen(0, GUEST, 0, 0);
        Check.monday(nobody, 0, 0, 1);
        agrees(nobody, "ILL of nobody, a GUEST hangs");
        nobody.hung(0, 0, 0);
        off(nobody, "ILL of nobody", 0, 0);
    }

    @Says("nothing; then each HANDED till then, one by one")
    static void handedTillThen() {
        WashLine w = home("k-w0t0:2-2", 1);
        w.happen(2, HANDED, 0, 1);
        w.happen(1, HANDED, 0, 1);
        Check.monday(w, 0, 0, 2);
        Check.monday(w, 0, 0, 1, 1);
        Check.monday(w, 0, 0, 0, 2);
        agrees(w, "none, one, two HANDED");
        w.happen(11, HANDED, 1, 0);
        agrees(w, "one of a later MONDAY");
        // ILL: 0 to 1; one less: 0 to 0; one more: 1 to 1.
        WashLine ill = home("k-w0t0:1-1", 1);
        ill.happen(0, HANDED, 0, 1);
        ill.happen(0, HANDED, 2, 0);
        ill.happen(0, ILL, 0, 0);
        Check.monday(ill, 0, 0, 1, 1);
        agrees(ill, "behind ILL");
        ill.hung(0, 0, 0);
        off(ill, "behind ILL, one at least", 0, 0);
        WashLine chain = Check.world("k-");
        chain.happen(0, HANDED, 0, 1);
        chain.happen(0, HANDED, 1, 2);
        chain.happen(0, HANDED, 2, 3);
        Check.monday(chain, 0, 0, 0, 0, 0, 1);
        agrees(chain, "handed on, one by one");
    }

    @Says("then in RAIN nothing at least of what dries indoors. It agrees, if that AGREES with the MONDAY.")
    static void toldInRain() {
        WashLine w = home("k-w0t0:3-3i0i1", 1);
        w.happen(0, HANDED, 2, 1);
        Check.monday(w, 1, 0);
        agrees(w, "nothing at least, HANDED neither");
        w.hung(0, 0, 3);
        w.hung(0, 1, 1);
        agrees(w, "at most as ever");
        w.hung(0, 1, 2);
        off(w, "at most no more than ever", 0, 1);
        w.back(0);
        Check.monday(w, 0, 0, 3);
        off(w, "dry", 0, 1);
        w.back(0);
        Check.monday(w, 0, 9, 12, 10);
        agrees(w, "by DOUBT");
        w.hung(0, 0, 13);
        off(w, "above DOUBT", 0, 0);
    }

    // ---- promise 34: happen

    @Says(promise = 34, value = "A HAPPENING of a KIND: its number.")
    static void happenIsNumbered() {
        WashLine w = Check.world("k-");
        Check.due("the first", w.happen(11, GUEST, 0, 0), 0);
        Check.due("the second, of an earlier MONDAY", w.happen(0, GONE, 0, 0), 1);
        Check.lay(w, 0, "k-");
        w.world(0);
        Check.due("the first of a new WORLD", w.happen(3, NOTE, 0, 0), 0);
    }

    @Says(promise = 34, value = "a the SORT (1 to 5), or the THING of which one less (6)")
    static void happenOfFirstAndLast() {
        WashLine w = Check.world("k-k-");
        for (int kind = COME; kind <= GUEST; kind++) {
            int each = kind;
            Check.due(w, "KIND " + kind + " of the first SORT", w.happen(0, kind, 0, 0), 2 * kind - 2, 0);
            Check.due(w, "KIND " + kind + " of the last SORT", w.happen(0, kind, 1, 0), 2 * kind - 1, 0);
            Check.refused(w, "KIND " + kind + ", SORT 2", BAD, () -> w.happen(0, each, 2, 0));
            Check.refused(w, "KIND " + kind + ", SORT -1", BAD, () -> w.happen(0, each, -1, 0));
        }
        Check.due("the first THING", w.happen(0, HANDED, 0, 1), 10);
        Check.due("the last THING", w.happen(0, HANDED, 7, 1), 11);
        Check.refused(w, "THING 8", BAD, () -> w.happen(0, HANDED, 8, 1));
        Check.refused(w, "THING -1", BAD, () -> w.happen(0, HANDED, -1, 1));
    }

    @Says(promise = 34, value = "b the THING of which one more (6; not that)")
    static void happenToFirstAndLast() {
        WashLine w = new WashLine();
        Check.due("to the first THING", w.happen(0, HANDED, 1, 0), 0);
        Check.due("to the last THING", w.happen(0, HANDED, 1, 7), 1);
        Check.refused(w, "to THING 8", BAD, () -> w.happen(0, HANDED, 1, 8));
        Check.refused(w, "to THING -1", BAD, () -> w.happen(0, HANDED, 1, -1));
        for (int x = 0; x < 8; x += 7) {
            int same = x;
            Check.refused(w, "to the same THING " + x, BAD, () -> w.happen(0, HANDED, same, same));
        }
        WashLine other = Check.world("k-");
        Check.due("b of other KINDS is not looked at", other.happen(0, COME, 0, BIG), 0);
        Check.due("a and b alike of other KINDS", other.happen(0, GUEST, 0, 0), 1);
        Check.due("a and b of a note are not looked at", other.happen(0, NOTE, SMALL, BIG), 2);
    }

    @Says(promise = 34, value = "BAD")
    static void happenBad() {
        WashLine w = Check.world("k-");
        for (int odd : new int[] {-1, 12, BIG, SMALL}) {
            Check.refused(w, "MONDAY " + odd, BAD, () -> w.happen(odd, NOTE, 0, 0));
            Check.refused(w, "KIND " + odd, BAD, () -> w.happen(0, odd, 0, 1));
            Check.refused(w, "SORT " + odd, BAD, () -> w.happen(0, COME, odd, 0));
            Check.refused(w, "THING " + odd, BAD, () -> w.happen(0, HANDED, odd, 0));
            Check.refused(w, "to THING " + odd, BAD, () -> w.happen(0, HANDED, 0, odd));
        }
        Check.due("count(2)", w.count(2), 0);
    }

    @Says(promise = 34, value = "FULL.")
    static void happenFull() {
        WashLine w = Check.world("k-");
        for (int e = 0; e < 16; e++) {
            Check.due("HAPPENING " + e, w.happen(e % 12, e % 7, 0, 1), e);
        }
        for (int kind = 0; kind <= 6; kind++) {
            int each = kind;
            Check.refused(w, "a seventeenth of KIND " + kind, FULL, () -> w.happen(0, each, 0, 1));
        }
        Check.refused(w, "BAD ahead of FULL", BAD, () -> w.happen(0, 7, 0, 1));
        Check.refused(w, "BAD ahead of FULL", BAD, () -> w.happen(0, COME, 1, 0));
        Check.refused(w, "BAD ahead of FULL", BAD, () -> w.happen(12, NOTE, 0, 0));
        Check.refused(w, "BAD ahead of FULL", BAD, () -> w.happen(0, HANDED, 3, 3));
    }

    // ---- promise 35: event

    @Says(promise = 35, value = "Of a HAPPENING: 0 its KIND, 1 its MONDAY, 2 a, 3 b")
    static void eventFirstAndLast() {
        WashLine w = Check.world("k-k-k-k-k-k-");
        w.happen(11, HANDED, 7, 6);
        for (int e = 1; e < 15; e++) {
            w.happen(0, NOTE, 0, 0);
        }
        w.happen(3, GUEST, 5, 0);
        int[][] due = {{6, 11, 7, 6}, {5, 3, 5, 0}};
        for (int what = 0; what < 4; what++) {
            Check.due(w, "event(0, " + what + ")", w.event(0, what), 1, due[0][what]);
            Check.due(w, "event(15, " + what + ")", w.event(15, what), 1, due[1][what]);
        }
    }

    @Says(promise = 35, value = "(0: not looked at), told by asked(): 1.")
    static void eventOfWhatIsNotLookedAt() {
        WashLine w = Check.world("k-k-");
        w.happen(0, NOTE, BIG, SMALL);
        for (int kind = COME; kind <= GUEST; kind++) {
            w.happen(0, kind, 1, 7);
        }
        for (int e = 0; e <= GUEST; e++) {
            Check.due(w, "event(" + e + ", 2)", w.event(e, 2), 1, e == 0 ? 0 : 1);
            Check.due(w, "event(" + e + ", 3)", w.event(e, 3), 1, 0);
        }
    }

    @Says(promise = 35, value = "BAD.")
    static void eventBad() {
        WashLine w = Check.world("k-");
        Check.refused(w, "event(0, 0), none", BAD, () -> w.event(0, 0));
        w.happen(4, COME, 0, 0);
        w.happen(5, COME, 0, 0);
        w.event(1, 1);
        for (int e : new int[] {-1, 2, 15, 16, BIG, SMALL}) {
            Check.refused(w, "event(" + e + ", 0)", BAD, () -> w.event(e, 0));
        }
        for (int what : new int[] {-1, 4, BIG, SMALL}) {
            Check.refused(w, "event(0, " + what + ")", BAD, () -> w.event(0, what));
        }
    }

    // ---- promise 36: mark

    @Says(promise = 36, value = "What a HAPPENING that IS of a KIND tells: a COME (GUEST, too) its SORT, a GONE one, "
        + "a GROWN one its SORT, an ILL one its SORT")
    static void markSorts() {
        WashLine w = Check.world("k-k-k-k-k-k-");
        int[] kinds = {COME, GONE, GROWN, ILL, GUEST};
        for (int k = 0; k < 5; k++) {
            w.happen(0, kinds[k], 0, 0);
            w.happen(11, kinds[k], 5, 0);
        }
        for (int k = 0; k < 5; k++) {
            int kind = kinds[k] == GUEST ? COME : kinds[k];
            Check.due("mark of KIND " + kinds[k] + ", the first SORT", w.mark(2 * k, kind), 0);
            Check.due("mark of KIND " + kinds[k] + ", the last SORT", w.mark(2 * k + 1, kind), 5);
        }
        Check.due("asked() stays", w.asked(), 0);
    }

    @Says(promise = 36, value = "a GUEST how many people the TOLD household of its MONDAY has (GUESTS not counted")
    static void markGuest() {
        WashLine w = Check.world("k-k-");
        w.happen(1, GUEST, 0, 0);
        w.happen(1, GUEST, 1, 0);
        Check.due("nobody", w.mark(0, GUEST), 0);
        for (int n = 1; n <= 5; n++) {
            w.happen(n % 2, COME, n % 2, 0);
            Check.due(n + " people", w.mark(0, GUEST), n);
            Check.due(n + " people", w.mark(1, GUEST), n);
        }
        w.happen(2, GONE, 0, 0);
        Check.due("a later MONDAY is not looked at", w.mark(1, GUEST), 5);
    }

    @Says(promise = 36, value = "BROKEN: NONE)")
    static void markGuestOfBroken() {
        WashLine w = Check.world("k-");
        w.happen(0, GUEST, 0, 0);
        w.happen(1, GUEST, 0, 0);
        w.happen(2, GUEST, 0, 0);
        w.happen(1, GONE, 0, 0);
        Check.due("ahead of it", w.mark(0, GUEST), 0);
        Check.refused(w, "on that MONDAY", NONE, () -> w.mark(1, GUEST));
        Check.refused(w, "behind it", NONE, () -> w.mark(2, GUEST));
        Check.due("its SORT yet", w.mark(1, COME), 0);
    }

    @Says(promise = 36, value = "a HANDED one 10 times both THINGS.")
    static void markHanded() {
        WashLine w = new WashLine();
        int[][] things = {{0, 7}, {7, 0}, {7, 6}, {0, 1}, {3, 4}};
        for (int e = 0; e < things.length; e++) {
            w.happen(0, HANDED, things[e][0], things[e][1]);
            Check.due("mark(" + e + ", HANDED)", w.mark(e, HANDED), 10 * things[e][0] + things[e][1]);
        }
    }

    @Says(promise = 36, value = "BAD")
    static void markBad() {
        WashLine w = Check.world("k-");
        Check.refused(w, "mark(0, COME), none", BAD, () -> w.mark(0, COME));
        w.happen(0, COME, 0, 0);
        for (int e : new int[] {-1, 1, 15, 16, BIG, SMALL}) {
            Check.refused(w, "mark(" + e + ", COME)", BAD, () -> w.mark(e, COME));
        }
        for (int kind : new int[] {-1, 7, BIG, SMALL}) {
            Check.refused(w, "mark(0, " + kind + ")", BAD, () -> w.mark(0, kind));
        }
    }

    @Says(promise = 36, value = "also KIND 0")
    static void markOfNotes() {
        WashLine w = Check.world("k-");
        for (int kind = 0; kind <= 6; kind++) {
            w.happen(0, kind, 0, 1);
        }
        for (int e = 0; e <= 6; e++) {
            int each = e;
            Check.refused(w, "mark(" + e + ", 0)", BAD, () -> w.mark(each, NOTE));
        }
    }

    @Says(promise = 36, value = "UNLIKE.")
    static void markUnlike() {
        for (int e = 0; e <= 6; e++) {
            WashLine w = Check.world("k1k-");
            w.happen(0, e, 0, 1);
            for (int kind = COME; kind <= HANDED; kind++) {
                int asked = kind;
                if (kind == e || kind == COME && e == GUEST) {
                    Check.holds("mark of KIND " + e + " by " + kind, w.mark(0, kind) >= 0);
                } else {
                    Check.finds(w, "mark of KIND " + e + " by " + kind, UNLIKE, () -> w.mark(0, asked));
                }
            }
        }
    }

    // ---- promise 37: household

    @Says(promise = 37, value = "The TOLD household of a MONDAY (0 .. 11).")
    static void householdFirstAndLast() {
        WashLine w = Check.world("k-k-k-k-k-k-");
        w.happen(0, COME, 5, 0);
        w.happen(11, COME, 0, 0);
        for (int m = 0; m < 11; m++) {
            Check.due("household(" + m + ")", w.household(m), 100000);
        }
        Check.due("household(11)", w.household(11), 100001);
        Check.due("no MONDAYS are there", w.count(1), 0);
        Check.due("asked() stays", w.asked(), 0);
    }

    @Says(promise = 37, value = "NONE: BROKEN on that or an earlier one.")
    static void householdBroken() {
        WashLine w = Check.world("k-");
        w.happen(3, GONE, 0, 0);
        Check.due("household(2)", w.household(2), 0);
        Check.refused(w, "household(3)", NONE, () -> w.household(3));
        Check.refused(w, "household(4)", NONE, () -> w.household(4));
        Check.refused(w, "household(11)", NONE, () -> w.household(11));
        w.happen(2, COME, 0, 0);
        Check.due("household(3), mended by an earlier one told later", w.household(3), 0);
    }

    @Says(promise = 37, value = "BAD.")
    static void householdBad() {
        WashLine w = Check.world("k-");
        Check.monday(w, 0, 0);
        w.happen(0, GONE, 0, 0);
        for (int m : new int[] {-1, 12, BIG, SMALL}) {
            Check.refused(w, "household(" + m + ")", BAD, () -> w.household(m));
        }
    }

    // ---- promise 38: judge

    @Says(promise = 38, value = "The first MONDAY (of those that there are) on which the TOLD household does not agree")
    static void judgeFirstAndLast() {
        WashLine w = home("k-w0t0:1-1", 1);
        for (int m = 0; m < 12; m++) {
            Check.monday(w, 0, 0, 1);
        }
        agrees(w, "twelve");
        for (int m = 11; m >= 0; m--) {
            w.hung(m, 0, m % 2 * 2);
            off(w, "from MONDAY " + m + " on", m, 0);
        }
        w.back(0);
        agrees(w, "of none that are not there");
        WashLine six = Check.world("k-k-k-k-k-k-w5t0:1-1");
        six.happen(0, COME, 5, 0);
        Check.monday(six, 0, 0, 1);
        agrees(six, "one of the last of six SORTS");
    }

    @Says(promise = 38, value = "or that is BROKEN")
    static void judgeBroken() {
        WashLine w = Check.world("k-");
        w.happen(1, GONE, 0, 0);
        Check.monday(w, 0, 0);
        agrees(w, "BROKEN on a MONDAY that there is not");
        Check.monday(w, 0, 0, 1);
        Check.monday(w, 0, 0, 1);
        off(w, "BROKEN, and off", 1, NONE);
        w.hung(0, 0, 1);
        off(w, "off ahead of BROKEN", 0, 0);
    }

    @Says(promise = 38, value = "the first THING by asked() (NONE: BROKEN).")
    static void judgeTellsThing() {
        WashLine w = home("k-w0t0:1-1", 1);
        Check.monday(w, 0, 0, 0, 1, 1, 1, 1, 1, 1, 1);
        for (int x = 0; x < 8; x++) {
            off(w, "from THING " + x + " on", 0, x);
            w.hung(0, x, x == 0 ? 1 : 0);
        }
        agrees(w, "no THING");
        Check.due("asked() of then", w.asked(), 7);
        w.happen(0, GROWN, 0, 0);
        off(w, "BROKEN", 0, NONE);
    }

    @Says(promise = 38, value = "NONE: it agrees with all.")
    static void judgeNone() {
        WashLine w = home("k-w0t0:1-1", 1);
        Check.row(w, 0, 33);
        w.at(0, 0);
        agrees(w, "no MONDAYS");
        Check.monday(w, 0, 0, 1);
        Check.monday(w, 1, 1, 2);
        w.at(0, 0);
        agrees(w, "two MONDAYS");
        Check.due("asked() stays", w.asked(), 33);
        agrees(new WashLine(), "a new object");
    }
}

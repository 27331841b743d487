/** The program against the Oracle, call by call, on runs that are drawn from a fixed seed. */
public final class OracleTest {
    private static final int[] ODD = {-1, -2, -9, 100, 41, 121, Integer.MAX_VALUE, Integer.MIN_VALUE};
    /** An object is used for at most 512 calls; one turn of a run makes no more than these. */
    private static final int CALLS = 512, TURN = 150;
    private static long seed;
    private static int used;

    private OracleTest() {
    }

    public static void main(String[] args) {
        int runs = args.length > 0 ? Integer.parseInt(args[0]) : 400;
        long from = args.length > 1 ? Long.parseLong(args[1]) : 1;
        for (long run = from; run < from + runs; run++) {
            seed = run * 7919;
            play(run);
        }
        Check.end();
    }

    private static int draw(int n) {
        seed = seed * 6364136223846793005L + 1442695040888963407L;
        return (int) ((seed >>> 33) % n);
    }

    /** Mostly 0 .. n - 1, sometimes just off, seldom odd. */
    private static int some(int n) {
        int odd = draw(40);
        if (odd == 0) {
            return ODD[draw(ODD.length)];
        }
        return odd == 1 ? n : draw(Math.max(1, n));
    }

    private static void play(long run) {
        WashLine w = new WashLine();
        Oracle o = new Oracle();
        int sorts = draw(10) == 0 ? 6 : draw(5);
        // Searches for TALES are slow in the Oracle: few of them, if there are many HOUSEHOLDS.
        int slow = sorts <= 2 ? 1 : sorts == 3 ? 4 : sorts == 4 ? 12 : 90;
        int calls = 40 + draw(260);
        used = 0;
        String world = draw(20) == 0 ? "" : drawnWorld(sorts);
        write(run, w, o, world);
        for (int i = 0; i < calls && used + TURN < CALLS; i++) {
            int what = draw(100);
            if (what < 12) {
                lineMonday(run, w, o);
            } else if (what < 14) {
                write(run, w, o, draw(3) == 0 ? spoiled(world) : world);
            } else if (what < 42) {
                early(run, w, o, draw(19));
            } else if (what < 62) {
                late(run, w, o, draw(16));
            } else if (what < 80) {
                if (draw(slow) == 0) {
                    ofTales(run, w, o, draw(9));
                }
            } else {
                ofPeople(run, w, o, draw(9));
            }
            look(run, "asked()", w.asked(), o.asked());
            if (draw(10) == 0) {
                look(run, "digest()", w.digest(), o.digest());
            }
        }
        look(run, "digest()", w.digest(), o.digest());
    }

    private static void look(long run, String call, long got, long want) {
        used++;
        Check.due("run " + run + ": " + call, got, want);
    }

    private static String drawnWorld(int sorts) {
        StringBuilder b = new StringBuilder();
        for (int s = 0; s < sorts; s++) {
            int into = draw(8);
            b.append('k').append(into > 5 ? "-" : "" + (draw(3) == 0 ? into : (s + 1) % 6));
            b.append(draw(4) == 0 ? " " : "");
        }
        for (int s = 0; s < sorts; s++) {
            for (int k = 1 + draw(2); k > 0; k--) {
                int a = draw(3);
                b.append("w" + s + "t" + draw(draw(3) == 0 ? 8 : 3) + ":" + a + "-" + (a + draw(4 - a)));
            }
        }
        for (int k = draw(3); k > 0; k--) {
            b.append("i" + draw(4));
        }
        if (draw(3) > 0) {
            b.append('c');
            int most = draw(4) == 0 ? 1 : 10;
            for (int k = 0; k < 5; k++) {
                b.append(draw(most));
            }
        }
        return b.toString();
    }

    private static String spoiled(String world) {
        if (world.isEmpty()) {
            return "k";
        }
        int place = draw(world.length());
        String signs = "k-wt:ic09 5x";
        return world.substring(0, place) + signs.charAt(draw(signs.length())) + world.substring(place + draw(2));
    }

    private static void write(long run, WashLine w, Oracle o, String text) {
        int t = draw(4);
        look(run, "text", w.text(t, text.length()), o.text(t, text.length()));
        for (int i = 0; i < text.length(); i++) {
            look(run, "put", w.put(t, i, text.charAt(i)), o.put(t, i, text.charAt(i)));
        }
        look(run, "fault of " + text, w.fault(t), o.fault(t));
        look(run, "world of " + text, w.world(t), o.world(t));
        for (int s = 0; s < 6; s++) {
            look(run, "grows", w.grows(s), o.grows(s));
        }
    }

    /** What a drawn HOUSEHOLD might have hung, sometimes a little off. */
    private static void lineMonday(long run, WashLine w, Oracle o) {
        int weather = draw(2);
        int r = draw(3);
        int house = drawnHouse(o);
        look(run, "row", w.row(r, 8), o.row(r, 8));
        for (int x = 0; x < 8; x++) {
            int low = Math.max(0, o.hangs(house, weather, x));
            int high = Math.max(low, o.asked());
            w.hangs(house, weather, x);
            used++;
            int n = low + draw(high - low + 1) + (draw(8) == 0 ? 1 : 0);
            if (n > 0 || draw(9) == 0) {
                look(run, "lay", w.lay(r, x, n), o.lay(r, x, n));
            }
        }
        int doubt = draw(3) == 0 ? draw(3) : 0;
        look(run, "monday", w.monday(weather, r, doubt), o.monday(weather, r, doubt));
    }

    private static int drawnHouse(Oracle o) {
        int house = 0;
        int sorts = o.count(0);
        for (int k = draw(6); k > 0 && sorts > 0; k--) {
            house += (int) Math.pow(10, draw(sorts));
        }
        return draw(20) == 0 ? house + draw(20) - 5 : house;
    }

    private static void early(long run, WashLine w, Oracle o, int call) {
        int r = some(6);
        int i = some(9);
        int v = draw(6) == 0 ? some(1000) - 500 : draw(9);
        switch (call) {
            case 0: look(run, "row(" + r + ", " + i + ")", w.row(r, i), o.row(r, i)); break;
            case 1: look(run, "row(" + r + ", 8)", w.row(r, 8), o.row(r, 8)); break;
            case 2: look(run, "lay(" + r + ", " + i + ", " + v + ")", w.lay(r, i, v), o.lay(r, i, v)); break;
            case 3: look(run, "at(" + r + ", " + i + ")", w.at(r, i), o.at(r, i)); break;
            case 4: if (draw(3) == 0) look(run, "tear(" + r + ")", w.tear(r), o.tear(r)); break;
            case 5: {
                int to = some(6), j = some(6), n = some(6);
                look(run, "copy", w.copy(r, i, to, j, n), o.copy(r, i, to, j, n));
                break;
            }
            case 6: look(run, "mean(" + r + ")", w.mean(r), o.mean(r)); break;
            case 7: if (draw(3) == 0) look(run, "text", w.text(some4(r), i), o.text(some4(r), i)); break;
            case 8: look(run, "put", w.put(some4(r), i, v), o.put(some4(r), i, v)); break;
            case 9: look(run, "fault", w.fault(some4(r)), o.fault(some4(r))); break;
            case 10: if (draw(9) == 0) look(run, "world", w.world(some4(r)), o.world(some4(r))); break;
            case 11: look(run, "wears(" + r + ", " + i + ")", w.wears(r, i), o.wears(r, i)); break;
            case 12: look(run, "grows(" + r + ")", w.grows(r), o.grows(r)); break;
            case 13: look(run, "indoors()", w.indoors(), o.indoors()); break;
            case 14: {
                int price = draw(2) == 0 ? -9 : draw(9) == 0 ? some(11) : draw(5);
                look(run, "price(" + r + ", " + price + ")", w.price(r, price), o.price(r, price));
                break;
            }
            case 15: {
                int weather = some(2), doubt = some(10);
                if (draw(3) == 0) look(run, "monday", w.monday(weather, r, doubt), o.monday(weather, r, doubt));
                break;
            }
            case 16: {
                int m = some(o.count(1)), n = draw(9) == 0 ? some(41) : draw(6);
                look(run, "hung", w.hung(m, i, n), o.hung(m, i, n));
                break;
            }
            case 17: look(run, "told", w.told(r, i), o.told(r, i)); break;
            default: {
                int n = draw(3) == 0 ? some(14) : o.count(1) - draw(2);
                if (draw(4) == 0) look(run, "back(" + n + ")", w.back(n), o.back(n));
            }
        }
    }

    private static int some4(int r) {
        return r == 5 ? 0 : r;
    }

    private static void ofPeople(long run, WashLine w, Oracle o, int call) {
        int m = some(o.count(1));
        int house = drawnHouse(o);
        String told = "(" + m + ", " + house + ")";
        switch (call) {
            case 0: {
                int weather = some(2), x = some(8);
                look(run, "hangs(" + house + ")", w.hangs(house, weather, x), o.hangs(house, weather, x));
                break;
            }
            case 1: case 2: look(run, "explains" + told, w.explains(m, house), o.explains(m, house)); break;
            case 3: look(run, "lacks" + told, w.lacks(m, house), o.lacks(m, house)); break;
            case 4: look(run, "fewest(" + m + ")", w.fewest(m), o.fewest(m)); break;
            case 5: look(run, "bound(" + m + ")", w.bound(m), o.bound(m)); break;
            case 6: {
                int most = some(10);
                look(run, "many(" + m + ", " + most + ")", w.many(m, most), o.many(m, most));
                break;
            }
            default: {
                int other = drawnHouse(o);
                look(run, "step(" + house + ", " + other + ")", w.step(house, other), o.step(house, other));
            }
        }
    }

    private static void ofTales(long run, WashLine w, Oracle o, int call) {
        int m = some(o.count(1));
        int s = some(Math.min(6, o.count(0)));
        switch (call) {
            case 0: look(run, "plain()", w.plain(), o.plain()); break;
            case 1: {
                int r = some(6);
                look(run, "tale(" + r + ")", w.tale(r), o.tale(r));
                look(run, "digest() behind tale", w.digest(), o.digest());
                break;
            }
            case 2: look(run, "ways()", w.ways(), o.ways()); look(run, "tales()", w.tales(), o.tales()); break;
            case 3: look(run, "sure(" + m + ", " + s + ")", w.sure(m, s), o.sure(m, s)); break;
            case 4: case 5: {
                int n = draw(3) == 0 ? some(6) : draw(3);
                look(run, "share(" + m + ", " + s + ", " + n + ")", w.share(m, s, n), o.share(m, s, n));
                look(run, "upper()", w.upper(), o.upper());
                look(run, "lower()", w.lower(), o.lower());
                break;
            }
            case 6: {
                int house = drawnHouse(o);
                look(run, "through(" + m + ", " + house + ")", w.through(m, house), o.through(m, house));
                break;
            }
            case 7: if (o.count(0) < 4) look(run, "rival(" + m + ")", w.rival(m), o.rival(m)); break;
            default: {
                int weather = some(2);
                if (o.count(0) < 4) look(run, "see(" + weather + ")", w.see(weather), o.see(weather));
            }
        }
    }

    private static void late(long run, WashLine w, Oracle o, int call) {
        int e = some(o.count(2));
        switch (call) {
            case 0: case 1: case 2: case 3: case 4: {
                int m = some(draw(2) == 0 ? 3 : 12), kind = draw(3) == 0 ? 1 : some(7);
                int a = some(draw(2) == 0 ? Math.max(1, o.count(0)) : 8), b = some(8);
                String told = "happen(" + m + ", " + kind + ", " + a + ", " + b + ")";
                look(run, told, w.happen(m, kind, a, b), o.happen(m, kind, a, b));
                break;
            }
            case 5: {
                int what = some(4);
                look(run, "event(" + e + ", " + what + ")", w.event(e, what), o.event(e, what));
                break;
            }
            case 6: case 7: case 8: {
                int kind = some(7);
                look(run, "mark(" + e + ", " + kind + ")", w.mark(e, kind), o.mark(e, kind));
                break;
            }
            case 9: case 10: {
                int m = some(12);
                look(run, "household(" + m + ")", w.household(m), o.household(m));
                break;
            }
            case 11: look(run, "judge()", w.judge(), o.judge()); break;
            case 12: {
                int house = drawnHouse(o);
                look(run, "doubts(" + house + ")", w.doubts(house), o.doubts(house));
                break;
            }
            case 13: look(run, "least()", w.least(), o.least()); break;
            case 14: {
                int what = some(6);
                look(run, "count(" + what + ")", w.count(what), o.count(what));
                break;
            }
            default: {
                int f = some(6);
                look(run, "finding()", w.finding(), o.finding());
                look(run, "findings(" + f + ")", w.findings(f), o.findings(f));
            }
        }
    }
}

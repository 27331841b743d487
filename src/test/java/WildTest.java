/** Any arguments in any state: no call throws, each ends, and the same calls give the same answers. */
public final class WildTest {
    private static final int[] ODD = {
        0, 1, 2, 3, 4, 5, 6, 7, 8, 9, 10, 11, 12, 13, 16, 20, 32, 39, 40, 41, 50, 100, 110, 119, 120, 121, 255, 500,
        1000, 11111, 100000, 500000, 1000000, -1, -2, -8, -9, -10, -128, -1000, Integer.MAX_VALUE, Integer.MIN_VALUE,
        Integer.MAX_VALUE - 1, Integer.MIN_VALUE + 1, 1 << 16, 1 << 30, -(1 << 30)
    };
    private static final String WORLD = "k1k2k3k4k5k0 w0t0:1-9w1t0:0-1w2t1:3-3w3t2:0-9w4t3:9-9w5t7:1-2 i0i7 c";
    private static long seed;

    public static void main(String[] args) {
        for (int run = 0; run < 400; run++) {
            long one = play(run);
            long other = play(run);
            Check.due("run " + run + " again", other, one);
        }
        Check.end();
    }

    private static int draw(int n) {
        seed = seed * 6364136223846793005L + 1442695040888963407L;
        return (int) ((seed >>> 33) % n);
    }

    private static int odd() {
        return draw(3) == 0 ? ODD[draw(ODD.length)] : draw(7);
    }

    private static long play(int run) {
        seed = run * 104729L + 5;
        WashLine w = new WashLine();
        if (run % 4 > 0) {
            String world = WORLD.substring(12 - 2 * draw(7)) + draw(10) + draw(10) + draw(10) + draw(10) + draw(10);
            Check.lay(w, 0, run % 4 == 1 ? "k1k-w0t0:1-2" : world.startsWith("k") ? world : "k-" + WORLD + "00000");
            w.world(0);
            for (int m = draw(13); m > 0; m--) {
                Check.monday(w, draw(2), draw(10), draw(12), draw(4), draw(4), draw(10));
            }
        }
        long h = run;
        for (int i = 0; i < 340; i++) {
            h = 31 * h + call(w, draw(48), odd(), odd(), odd());
        }
        return 31 * h + w.digest();
    }

    private static long call(WashLine w, int call, int a, int b, int c) {
        switch (call) {
            case 0: return w.row(a, b);
            case 1: return w.lay(a, b, c);
            case 2: return w.at(a, b);
            case 3: return w.tear(a);
            case 4: return w.copy(a, b, c, odd(), odd());
            case 5: return w.mean(a);
            case 6: return w.text(a, b);
            case 7: return w.put(a, b, c);
            case 8: return w.fault(a);
            case 9: return draw(20) == 0 ? w.world(a) : 0;
            case 10: return w.wears(a, b);
            case 11: return w.grows(a);
            case 12: return w.indoors();
            case 13: return w.price(a, b);
            case 14: return w.monday(a, b, c);
            case 15: return w.hung(a, b, c);
            case 16: return w.told(a, b);
            case 17: return draw(4) == 0 ? w.back(a) : 0;
            case 18: return w.hangs(a, b, c);
            case 19: return w.explains(a, b);
            case 20: return w.lacks(a, b);
            case 21: return w.fewest(a);
            case 22: return w.bound(a);
            case 23: return w.many(a, b);
            default: return late(w, call, a, b, c);
        }
    }

    private static long late(WashLine w, int call, int a, int b, int c) {
        switch (call) {
            case 24: return w.step(a, b);
            case 25: return w.plain();
            case 26: return w.tale(a);
            case 27: return w.ways();
            case 28: return w.sure(a, b);
            case 29: return w.share(a, b, c);
            case 30: return w.through(a, b);
            case 31: return w.rival(a);
            case 32: return w.happen(a, b, c, odd());
            case 33: return w.event(a, b);
            case 34: return w.mark(a, b);
            case 35: return w.household(a);
            case 36: return w.judge();
            case 37: return w.doubts(a);
            case 38: return w.least();
            case 39: return w.see(a);
            case 40: return w.asked();
            case 41: return w.tales();
            case 42: return w.upper();
            case 43: return w.lower();
            case 44: return w.count(a);
            case 45: return w.finding();
            case 46: return w.findings(a);
            default: return w.digest();
        }
    }
}

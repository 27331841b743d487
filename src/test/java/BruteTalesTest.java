import java.util.ArrayList;
import java.util.List;

/**
 * Small worlds in which every TALE is written down, one by one, by step() and explains() alone. An object is used for at
 * most 512 calls: tables are made by objects of their own, all alike.
 */
public final class BruteTalesTest {
    private static long seed = 20261119;

    private final String world;
    private final int[][] hung;
    private final WashLine w;
    private final List<Integer> houses = new ArrayList<>();
    private final int mondays;
    private final int[][] steps;
    private final int[][] prices;
    private final int[] tale;
    private int best = Integer.MAX_VALUE;
    private List<int[]> plain = new ArrayList<>();
    /** Of MONDAYS and HOUSEHOLDS the least cost. */
    private final int[][] through;

    private BruteTalesTest(String world, int[][] hung) {
        this.world = world;
        this.hung = hung;
        w = made();
        int sorts = w.count(0);
        for (int n = 0; n < Math.pow(10, sorts); n++) {
            if (w.hangs(n, 0, 0) >= 0) {
                houses.add(n);
            }
        }
        mondays = w.count(1);
        steps = new int[houses.size()][houses.size()];
        for (int h = 0; h < houses.size(); h++) {
            WashLine each = made();
            for (int k = 0; k < houses.size(); k++) {
                steps[h][k] = each.step(houses.get(h), houses.get(k));
            }
        }
        WashLine each = made();
        prices = new int[mondays][houses.size()];
        for (int m = 0; m < mondays; m++) {
            for (int k = 0; k < houses.size(); k++) {
                prices[m][k] = each.explains(m, houses.get(k));
            }
        }
        tale = new int[mondays];
        through = new int[mondays][houses.size()];
        for (int[] row : through) {
            java.util.Arrays.fill(row, Integer.MAX_VALUE);
        }
    }

    public static void main(String[] args) {
        for (int run = 0; run < 250; run++) {
            String world = drawn(1 + draw(2));
            int[][] hung = new int[1 + draw(3)][];
            for (int m = 0; m < hung.length; m++) {
                hung[m] = new int[] {draw(2), draw(4) == 0 ? 1 : 0, draw(6), draw(4), draw(3)};
            }
            new BruteTalesTest(world, hung).look(run);
        }
        Check.end();
    }

    /** The WORLD with its MONDAYS, anew. */
    private WashLine made() {
        WashLine made = Check.world(world);
        for (int[] each : hung) {
            Check.monday(made, each[0], each[1], each[2], each[3], each[4]);
        }
        return made;
    }

    private static int draw(int n) {
        seed = seed * 6364136223846793005L + 1442695040888963407L;
        return (int) ((seed >>> 33) % n);
    }

    private static String drawn(int sorts) {
        StringBuilder b = new StringBuilder(sorts == 1 ? "k-" : draw(2) == 0 ? "k1k-" : "k1k0");
        for (int s = 0; s < sorts; s++) {
            for (int x = 0; x < 3; x++) {
                int a = draw(2);
                b.append("w" + s + "t" + x + ":" + a + "-" + (a + draw(3)));
            }
        }
        b.append("i" + draw(3) + "c");
        int most = draw(3) == 0 ? 2 : 6;
        for (int k = 0; k < 5; k++) {
            b.append(draw(most));
        }
        return b.toString();
    }

    private void tell(int m, int last, int cost) {
        if (m == mondays) {
            if (cost < best) {
                best = cost;
                plain.clear();
            }
            if (cost == best) {
                plain.add(tale.clone());
            }
            for (int k = 0; k < mondays; k++) {
                int h = houses.indexOf(tale[k]);
                through[k][h] = Math.min(through[k][h], cost);
            }
            return;
        }
        for (int h = 0; h < houses.size(); h++) {
            if (prices[m][h] >= 0) {
                tale[m] = houses.get(h);
                tell(m + 1, h, cost + steps[last][h] + prices[m][h]);
            }
        }
    }

    private void look(int run) {
        String told = "run " + run + ": ";
        tell(0, 0, 0);
        boolean none = plain.isEmpty();
        Check.due(told + "27 plain", w.plain(), none ? WashLine.NONE : best);
        Check.due(told + "29 ways", w.ways(), none ? 0 : 1);
        Check.due(told + "29 tales", w.tales(), plain.size());
        for (int m = 0; m < mondays; m++) {
            for (int h = 0; h < houses.size(); h++) {
                int least = through[m][h];
                int due = least == Integer.MAX_VALUE ? WashLine.NONE : least;
                Check.due(told + "32 through", w.through(m, houses.get(h)), due);
            }
        }
        if (none) {
            return;
        }
        w.tale(1);
        for (int m = 0; m < mondays; m++) {
            Check.due(w, told + "28 at(1, " + m + ")", w.at(1, m), 1, plain.get(0)[m]);
            rival(told, m);
            for (int s = 0; s < w.count(0); s++) {
                sorts(told, m, s);
            }
        }
        for (int weather = 0; weather < 2; weather++) {
            see(told, weather);
        }
    }

    private void rival(String told, int m) {
        int other = -1;
        int least = Integer.MAX_VALUE;
        for (int h = 0; h < houses.size(); h++) {
            if (houses.get(h) != plain.get(0)[m] && through[m][h] < least) {
                least = through[m][h];
                other = houses.get(h);
            }
        }
        if (other < 0) {
            Check.due(told + "33 rival", w.rival(m), WashLine.NONE);
        } else {
            Check.due(w, told + "33 rival", w.rival(m), least, other);
        }
    }

    private void sorts(String told, int m, int s) {
        int[] tales = new int[6];
        int low = 5;
        int high = 0;
        for (int[] each : plain) {
            int n = each[m] / (s == 0 ? 1 : 10) % 10;
            tales[n]++;
            low = Math.min(low, n);
            high = Math.max(high, n);
        }
        Check.due(w, told + "30 sure", w.sure(m, s), low, high);
        for (int n = 0; n <= 5; n++) {
            int divisor = plain.size();
            while (plain.size() % divisor != 0 || tales[n] % divisor != 0) {
                divisor--;
            }
            Check.due(told + "31 share", w.share(m, s, n), 1);
            Check.due(told + "31 upper", w.upper(), tales[n] / divisor);
            Check.due(told + "31 lower", w.lower(), plain.size() / divisor);
        }
    }

    private void see(String told, int weather) {
        WashLine other = made();
        List<Integer> last = new ArrayList<>();
        for (int[] each : plain) {
            if (!last.contains(each[mondays - 1])) {
                last.add(each[mondays - 1]);
            }
        }
        int best = 0;
        int most = -1;
        for (int x = 0; x < 8; x++) {
            int pairs = 0;
            int[] lows = new int[last.size()];
            int[] highs = new int[last.size()];
            for (int k = 0; k < last.size(); k++) {
                lows[k] = other.hangs(last.get(k), weather, x);
                highs[k] = other.asked();
            }
            for (int high : highs) {
                for (int low : lows) {
                    pairs += high < low ? 1 : 0;
                }
            }
            if (pairs > most) {
                most = pairs;
                best = x;
            }
        }
        Check.due(w, told + "41 see", w.see(weather), best, most);
    }
}

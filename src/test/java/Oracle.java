import java.math.BigInteger;
import java.util.ArrayList;
import java.util.Arrays;
import java.util.HashMap;
import java.util.List;
import java.util.Map;

/**
 * The document once more, written as slowly and as literally as can be, to hold the program against:
 * HOUSEHOLDS are lists of people, STEPS are searched happening by happening, each question about TALES
 * is a search of its own, and numbers of TALES have no end.
 */
final class Oracle {
    static final int BAD = -1, FULL = -2, FINDING = -3, STATE = -4, SPENT = -6, NONE = -9;
    private static final int FAR = 1_000_000_000;

    private final int[][] rows = new int[6][];
    private final byte[][] texts = new byte[4][];
    private Land land = new Land();
    private final List<int[]> mondays = new ArrayList<>();
    private final List<int[]> events = new ArrayList<>();
    private final int[] findings = new int[6];
    private int finding = 0;
    private int asked = 0;
    private long tales = 0;
    private long upper = 0;
    private long lower = 1;
    private final Map<Long, Integer> stepsKnown = new HashMap<>();

    private static final class Land {
        final List<Integer> into = new ArrayList<>();
        final int[][][] hangs = new int[6][8][2];
        final boolean[] indoors = new boolean[8];
        int[] prices = {3, 3, 1, 2, 2};
        int fault = NONE;
    }

    // ---- rows and texts

    private int finds(int f) {
        finding = f;
        findings[f]++;
        return FINDING;
    }

    int row(int r, int n) {
        if (r < 0 || r > 5 || n > 40) return BAD;
        if (n < 0) return finds(5);
        rows[r] = new int[n];
        return n;
    }

    int lay(int r, int i, int v) {
        if (r < 0 || r > 5) return BAD;
        if (rows[r] == null) return finds(1);
        if (i < 0 || i >= rows[r].length) return finds(2);
        asked = rows[r][i];
        rows[r][i] = v;
        return 1;
    }

    int at(int r, int i) {
        if (r < 0 || r > 5) return BAD;
        if (rows[r] == null) return finds(1);
        if (i < 0 || i >= rows[r].length) return finds(2);
        asked = rows[r][i];
        return 1;
    }

    int tear(int r) {
        if (r < 0 || r > 5) return BAD;
        if (rows[r] == null) return finds(1);
        rows[r] = null;
        return 1;
    }

    int copy(int r, int i, int to, int j, int n) {
        if (r < 0 || r > 5 || to < 0 || to > 5) return BAD;
        if (n < 0) return finds(5);
        if (rows[r] == null || rows[to] == null) return finds(1);
        if (i < 0 || j < 0 || (long) i + n > rows[r].length || (long) j + n > rows[to].length) return finds(2);
        int[] taken = Arrays.copyOfRange(rows[r], i, i + n);
        for (int k = 0; k < n; k++) rows[to][j + k] = taken[k];
        return 1;
    }

    int mean(int r) {
        if (r < 0 || r > 5) return BAD;
        if (rows[r] == null) return finds(1);
        if (rows[r].length == 0) return finds(4);
        BigInteger sum = BigInteger.ZERO;
        for (int v : rows[r]) sum = sum.add(BigInteger.valueOf(v));
        asked = sum.divide(BigInteger.valueOf(rows[r].length)).intValueExact();
        return 1;
    }

    int text(int t, int n) {
        if (t < 0 || t > 3 || n > 120) return BAD;
        if (n < 0) return finds(5);
        texts[t] = new byte[n];
        Arrays.fill(texts[t], (byte) ' ');
        return n;
    }

    int put(int t, int i, int v) {
        if (t < 0 || t > 3) return BAD;
        if (texts[t] == null) return finds(1);
        if (i < 0 || i >= texts[t].length) return finds(2);
        int was = texts[t][i];
        texts[t][i] = (byte) v;
        return was + 1000;
    }

    /** An item's form: a letter, then figures up to that one, or signs. */
    private static Land read(byte[] text) {
        Land land = new Land();
        int i = 0;
        while (i < text.length) {
            if (text[i] == ' ') {
                i++;
                continue;
            }
            String form = text[i] == 'k' && land.into.size() < 6 ? "kS" : text[i] == 'w' ? "wstx:a-b"
                : text[i] == 'i' ? "ix" : text[i] == 'c' ? "c99999" : "";
            int[] v = new int[8];
            if (form.isEmpty()) {
                land.fault = i;
                return land;
            }
            for (int p = 1; p < form.length(); p++) {
                int c = i + p < text.length ? text[i + p] : 999;
                v[p] = c - '0';
                if (!fits(form.charAt(p), c, land.into.size(), v[5])) {
                    land.fault = i + p;
                    return land;
                }
            }
            if (form.equals("kS")) land.into.add(v[1] < 0 ? NONE : v[1]);
            if (form.equals("ix")) land.indoors[v[1]] = true;
            if (form.equals("c99999")) land.prices = Arrays.copyOfRange(v, 1, 6);
            if (form.equals("wstx:a-b")) land.hangs[v[1]][v[3]] = new int[] {v[5], v[7]};
            i += form.length();
        }
        for (int s = 0; s < land.into.size(); s++) {
            if (land.into.get(s) >= land.into.size()) land.into.set(s, NONE);
        }
        return land;
    }

    private static boolean fits(char form, int c, int sorts, int a) {
        int figure = c >= '0' && c <= '9' ? c - '0' : -1;
        switch (form) {
            case 'S': return c == '-' || figure >= 0 && figure <= 5;
            case 's': return figure >= 0 && figure < sorts;
            case 'x': return figure >= 0 && figure <= 7;
            case 'a': case '9': return figure >= 0;
            case 'b': return figure >= a;
            default: return c == form;
        }
    }

    int fault(int t) {
        if (t < 0 || t > 3) return BAD;
        if (texts[t] == null) return finds(1);
        return read(texts[t]).fault;
    }

    int world(int t) {
        if (t < 0 || t > 3) return BAD;
        if (texts[t] == null) return finds(1);
        Land read = read(texts[t]);
        if (read.fault != NONE) return STATE;
        land = read;
        mondays.clear();
        events.clear();
        stepsKnown.clear();
        houses = null;
        return sorts();
    }

    private int sorts() {
        return land.into.size();
    }

    int wears(int s, int x) {
        if (s < 0 || s >= sorts() || x < 0 || x > 7) return BAD;
        asked = land.hangs[s][x][1];
        return land.hangs[s][x][0];
    }

    int grows(int s) {
        return s < 0 || s >= sorts() ? BAD : land.into.get(s);
    }

    int indoors() {
        int bits = 0;
        for (int x = 0; x < 8; x++) bits += land.indoors[x] ? 1 << x : 0;
        return bits;
    }

    int price(int which, int v) {
        if (which < 0 || which > 4 || (v < 0 || v > 9) && v != NONE) return BAD;
        int was = land.prices[which];
        if (v != NONE) land.prices[which] = v;
        stepsKnown.clear();
        return was;
    }

    int monday(int weather, int r, int doubt) {
        if (weather < 0 || weather > 1 || r < 0 || r > 5 || doubt < 0 || doubt > 9) return BAD;
        if (rows[r] == null) return finds(1);
        if (rows[r].length != 8) return finds(5);
        for (int v : rows[r]) if (v < 0 || v > 40) return finds(3);
        if (mondays.size() == 12) return FULL;
        int[] monday = new int[10];
        monday[0] = weather;
        monday[1] = doubt;
        for (int x = 0; x < 8; x++) monday[2 + x] = rows[r][x];
        mondays.add(monday);
        return mondays.size() - 1;
    }

    private boolean noMonday(int m) {
        return m < 0 || m >= mondays.size();
    }

    int hung(int m, int x, int n) {
        if (noMonday(m) || x < 0 || x > 7 || n < 0 || n > 40) return BAD;
        int was = mondays.get(m)[2 + x];
        mondays.get(m)[2 + x] = n;
        return was;
    }

    int told(int m, int what) {
        if (noMonday(m) || what < 0 || what > 9) return BAD;
        asked = mondays.get(m)[what];
        return 1;
    }

    int back(int n) {
        if (n < 0 || n > mondays.size()) return BAD;
        int went = 0;
        while (mondays.size() > n) {
            mondays.remove(mondays.size() - 1);
            went++;
        }
        return went;
    }

    // ---- households, as lists of the sorts of their people

    private List<Integer> houses = null;

    private List<Integer> houses() {
        if (houses == null) {
            houses = new ArrayList<>();
            int end = (int) Math.pow(10, sorts());
            for (int n = 0; n < end; n++) if (people(n) != null) houses.add(n);
        }
        return houses;
    }

    /** The sorts of a HOUSEHOLD's people; null: no HOUSEHOLD. */
    private List<Integer> people(int house) {
        if (house < 0) return null;
        List<Integer> people = new ArrayList<>();
        int rest = house;
        for (int s = 0; rest > 0; s++) {
            for (int k = 0; k < rest % 10; k++) people.add(s);
            rest /= 10;
        }
        for (int s : people) if (s >= sorts()) return null;
        return people.size() > 5 ? null : people;
    }

    private static int number(List<Integer> people) {
        int n = 0;
        for (int s : people) n += (int) Math.pow(10, s);
        return n;
    }

    /** Least and most that people hang, of those in bare nothing at least. */
    private int[] sum(List<Integer> people, List<Integer> bare, int weather, int x) {
        int[] sum = new int[2];
        for (int s : people) {
            sum[0] += land.hangs[s][x][0];
            sum[1] += land.hangs[s][x][1];
        }
        for (int s : bare) sum[0] -= land.hangs[s][x][0];
        if (weather == 1 && land.indoors[x]) sum[0] = 0;
        return sum;
    }

    private boolean agrees(int m, int x, int[] hangs) {
        int[] monday = mondays.get(m);
        return monday[2 + x] - monday[1] <= hangs[1] && monday[2 + x] + monday[1] >= hangs[0];
    }

    private boolean agrees(int m, List<Integer> people, List<Integer> bare) {
        for (int x = 0; x < 8; x++) {
            if (!agrees(m, x, sum(people, bare, mondays.get(m)[0], x))) return false;
        }
        return true;
    }

    int hangs(int house, int weather, int x) {
        if (people(house) == null || weather < 0 || weather > 1 || x < 0 || x > 7) return BAD;
        int[] sum = sum(people(house), List.of(), weather, x);
        asked = sum[1];
        return sum[0];
    }

    /** How, and the PRICE: the cheapest of all ways, the earliest of alike ones; null: none. */
    private int[] explained(int m, int house) {
        List<Integer> people = people(house);
        List<int[]> ways = new ArrayList<>();
        if (agrees(m, people, List.of())) ways.add(new int[] {0, 0});
        for (int s = 0; s < sorts(); s++) {
            if (people.contains(s) && agrees(m, people, List.of(s))) ways.add(new int[] {10 + s, land.prices[3]});
        }
        for (int s = 0; s < sorts(); s++) {
            List<Integer> more = new ArrayList<>(people);
            more.add(s);
            if (agrees(m, more, List.of())) ways.add(new int[] {20 + s, land.prices[4]});
        }
        int[] best = null;
        for (int[] way : ways) if (best == null || way[1] < best[1]) best = way;
        return best;
    }

    int explains(int m, int house) {
        if (noMonday(m) || people(house) == null) return BAD;
        int[] way = explained(m, house);
        if (way == null) return NONE;
        asked = way[0];
        return way[1];
    }

    int lacks(int m, int house) {
        if (noMonday(m) || people(house) == null) return BAD;
        int few = 0;
        int much = 0;
        int[] monday = mondays.get(m);
        for (int x = 0; x < 8; x++) {
            int[] sum = sum(people(house), List.of(), monday[0], x);
            if (monday[2 + x] + monday[1] < sum[0]) few |= 1 << x;
            if (monday[2 + x] - monday[1] > sum[1]) much |= 1 << x;
        }
        asked = much;
        return few;
    }

    int fewest(int m) {
        if (noMonday(m)) return BAD;
        for (int n = 0; n <= 5; n++) {
            for (int house : houses()) {
                if (people(house).size() == n && agrees(m, people(house), List.of())) {
                    asked = house;
                    return n;
                }
            }
        }
        return NONE;
    }

    int bound(int m) {
        if (noMonday(m)) return BAD;
        int bound = 0;
        for (int x = 0; x < 8; x++) {
            int n = Math.max(0, mondays.get(m)[2 + x] - mondays.get(m)[1]);
            int most = 0;
            for (int s = 0; s < sorts(); s++) most = Math.max(most, land.hangs[s][x][1]);
            if (n > 0 && most == 0) return NONE;
            int people = 0;
            while (people * most < n) people++;
            bound = Math.max(bound, people);
        }
        return bound;
    }

    int many(int m, int most) {
        if (noMonday(m) || most < 0 || most > 9) return BAD;
        int n = 0;
        for (int house : houses()) {
            int[] way = explained(m, house);
            if (way != null && way[1] <= most) n++;
        }
        return n;
    }

    int step(int house, int other) {
        return people(house) == null || people(other) == null ? BAD : stepPrice(house, other);
    }

    private int stepPrice(int house, int other) {
        Integer known = stepsKnown.get(house * 1000000L + other);
        if (known == null) {
            searchSteps(house);
            known = stepsKnown.get(house * 1000000L + other);
        }
        return known;
    }

    /** All HOUSEHOLDS at 0, 1, 2 .. from this one, by coming, going and growing in any order. */
    private void searchSteps(int house) {
        Map<Integer, Integer> cost = new HashMap<>();
        cost.put(house, 0);
        List<Integer> open = new ArrayList<>();
        open.add(house);
        while (!open.isEmpty()) {
            int here = open.remove(open.size() - 1);
            List<Integer> people = people(here);
            for (int s = 0; s < sorts(); s++) {
                List<Integer> next = new ArrayList<>(people);
                next.add(s);
                if (next.size() <= 5) reach(cost, open, here, next, land.prices[0]);
                next = new ArrayList<>(people);
                if (!next.remove((Integer) s)) continue;
                reach(cost, open, here, next, land.prices[1]);
                if (land.into.get(s) == NONE) continue;
                List<Integer> grown = new ArrayList<>(next);
                grown.add(land.into.get(s));
                reach(cost, open, here, grown, land.prices[2]);
            }
        }
        for (int to : cost.keySet()) stepsKnown.put(house * 1000000L + to, cost.get(to));
    }

    private void reach(Map<Integer, Integer> cost, List<Integer> open, int here, List<Integer> next, int price) {
        int to = number(next);
        int sum = cost.get(here) + price;
        if (sum < cost.getOrDefault(to, FAR)) {
            cost.put(to, sum);
            open.add(0, to);
        }
    }

    // ---- tales: every question a search over all Mondays, some of them with fewer households

    /** Which HOUSEHOLDS a MONDAY may have: all but on one day, on which one of a SORT, one house, or not that. */
    private static final class Only {
        int day = -1;
        int sort = -1;
        int many;
        int house = -1;
        int not = -1;
    }

    private boolean may(Only only, int m, int house) {
        if (m != only.day) return true;
        if (only.house >= 0) return house == only.house;
        if (only.not >= 0) return house != only.not;
        return people(house).stream().filter(s -> s == only.sort).count() == only.many;
    }

    /** The least cost of TALES (FAR: none); how many of those by number[0], the first of them by first. */
    private int search(Only only, BigInteger[] number, List<Integer> first) {
        int n = mondays.size();
        List<Integer> all = houses();
        int[][] cost = new int[n + 1][all.size()];
        int[][] price = new int[n + 1][all.size()];
        BigInteger[][] ways = new BigInteger[n + 1][all.size()];
        Arrays.fill(ways[n], BigInteger.ONE);
        for (int m = n - 1; m >= 0; m--) {
            for (int h = 0; h < all.size(); h++) {
                int[] way = may(only, m, all.get(h)) ? explained(m, all.get(h)) : null;
                price[m][h] = way == null ? FAR : way[1];
            }
            for (int h = 0; h < all.size(); h++) {
                if (m == 0 && h > 0) break;
                // From the household before this Monday (nobody before the first one).
                int least = FAR;
                BigInteger sum = BigInteger.ZERO;
                for (int k = 0; k < all.size(); k++) {
                    int after = m == n - 1 ? 0 : cost[m + 1][k];
                    if (price[m][k] >= FAR || after >= FAR) continue;
                    int c = stepPrice(all.get(h), all.get(k)) + price[m][k] + after;
                    BigInteger w = m == n - 1 ? BigInteger.ONE : ways[m + 1][k];
                    if (c < least) {
                        least = c;
                        sum = w;
                    } else if (c == least) {
                        sum = sum.add(w);
                    }
                }
                cost[m][h] = least;
                ways[m][h] = sum;
            }
        }
        number[0] = n == 0 ? BigInteger.ONE : ways[0][0];
        int best = n == 0 ? 0 : cost[0][0];
        int at = 0;
        for (int m = 0; m < n && best < FAR; m++) {
            int k = 0;
            while (price[m][k] >= FAR || stepPrice(all.get(at), all.get(k)) + price[m][k]
                    + (m == n - 1 ? 0 : cost[m + 1][k]) != cost[m][at]) k++;
            first.add(all.get(k));
            at = k;
        }
        return best;
    }

    private int search(Only only) {
        return search(only, new BigInteger[1], new ArrayList<>());
    }

    int plain() {
        int best = search(new Only());
        return best == FAR ? NONE : best;
    }

    int tale(int r) {
        if (r < 0 || r > 5) return BAD;
        List<Integer> first = new ArrayList<>();
        if (search(new Only(), new BigInteger[1], first) == FAR) return finds(4);
        rows[r] = new int[first.size()];
        for (int m = 0; m < first.size(); m++) rows[r][m] = first.get(m);
        return first.size();
    }

    private BigInteger number() {
        BigInteger[] number = new BigInteger[1];
        return search(new Only(), number, new ArrayList<>()) == FAR ? BigInteger.ZERO : number[0];
    }

    int ways() {
        BigInteger number = number();
        if (number.compareTo(BigInteger.TEN.pow(15)) > 0) return SPENT;
        tales = number.longValueExact();
        return tales == 0 ? 0 : 1;
    }

    private BigInteger having(int m, int s, int n, int best) {
        Only only = new Only();
        only.day = m;
        only.sort = s;
        only.many = n;
        BigInteger[] number = new BigInteger[1];
        return search(only, number, new ArrayList<>()) == best ? number[0] : BigInteger.ZERO;
    }

    int sure(int m, int s) {
        if (noMonday(m) || s < 0 || s >= sorts()) return BAD;
        int best = search(new Only());
        if (best == FAR) return finds(4);
        int low = -1;
        for (int n = 0; n <= 5; n++) {
            if (having(m, s, n, best).signum() > 0) {
                low = low < 0 ? n : low;
                asked = n;
            }
        }
        return low;
    }

    int share(int m, int s, int n) {
        if (noMonday(m) || s < 0 || s >= sorts() || n < 0 || n > 5) return BAD;
        int best = search(new Only());
        if (best == FAR) return finds(4);
        BigInteger all = number();
        if (all.compareTo(BigInteger.TEN.pow(15)) > 0) return SPENT;
        BigInteger some = having(m, s, n, best);
        BigInteger divisor = some.gcd(all);
        upper = some.divide(divisor).longValueExact();
        lower = all.divide(divisor).longValueExact();
        return 1;
    }

    int through(int m, int house) {
        if (noMonday(m) || people(house) == null) return BAD;
        Only only = new Only();
        only.day = m;
        only.house = house;
        int cost = search(only);
        return cost == FAR ? NONE : cost;
    }

    int rival(int m) {
        if (noMonday(m)) return BAD;
        List<Integer> first = new ArrayList<>();
        if (search(new Only(), new BigInteger[1], first) == FAR) return finds(4);
        Only only = new Only();
        only.day = m;
        only.not = first.get(m);
        int cost = search(only);
        if (cost == FAR) return NONE;
        for (int house : houses()) {
            only = new Only();
            only.day = m;
            only.house = house;
            if (house != first.get(m) && search(only) == cost) {
                asked = house;
                break;
            }
        }
        return cost;
    }

    // ---- happenings

    int happen(int m, int kind, int a, int b) {
        if (m < 0 || m > 11 || kind < 0 || kind > 6) return BAD;
        if (kind >= 1 && kind <= 5 && (a < 0 || a >= sorts())) return BAD;
        if (kind == 6 && (a < 0 || a > 7 || b < 0 || b > 7 || a == b)) return BAD;
        if (events.size() == 16) return FULL;
        events.add(new int[] {kind, m, kind == 0 ? 0 : a, kind == 6 ? b : 0});
        return events.size() - 1;
    }

    int event(int e, int what) {
        if (e < 0 || e >= events.size() || what < 0 || what > 3) return BAD;
        asked = events.get(e)[what];
        return 1;
    }

    int mark(int e, int kind) {
        if (e < 0 || e >= events.size() || kind < 1 || kind > 6) return BAD;
        int[] event = events.get(e);
        if (event[0] != kind && !(event[0] == 5 && kind == 1)) return finds(3);
        if (kind == 6) return event[2] * 10 + event[3];
        if (kind != 5) return event[2];
        List<Integer> told = told(event[1]);
        return told == null ? NONE : told.size();
    }

    /** MONDAY by MONDAY, as told. */
    private List<int[]> till(int m) {
        List<int[]> till = new ArrayList<>();
        for (int day = 0; day <= m; day++) {
            for (int[] event : events) if (event[1] == day) till.add(event);
        }
        return till;
    }

    /** The people of the TOLD household; null: BROKEN. */
    private List<Integer> told(int m) {
        List<Integer> people = new ArrayList<>();
        for (int[] event : till(m)) {
            int kind = event[0];
            if ((kind == 2 || kind == 3) && !people.remove((Integer) event[2])) return null;
            if (kind == 3 && land.into.get(event[2]) == NONE) return null;
            if (kind == 1) people.add(event[2]);
            if (kind == 3) people.add(land.into.get(event[2]));
            if (people.size() > 5) return null;
        }
        return people;
    }

    int household(int m) {
        if (m < 0 || m > 11) return BAD;
        List<Integer> people = told(m);
        return people == null ? NONE : number(people);
    }

    int judge() {
        for (int m = 0; m < mondays.size(); m++) {
            List<Integer> people = told(m);
            if (people == null) {
                asked = NONE;
                return m;
            }
            int x = judged(m, people);
            if (x != NONE) {
                asked = x;
                return m;
            }
        }
        return NONE;
    }

    private int judged(int m, List<Integer> people) {
        List<Integer> all = new ArrayList<>(people);
        List<Integer> well = new ArrayList<>(people);
        List<Integer> ill = new ArrayList<>();
        for (int[] event : events) {
            if (event[1] == m && event[0] == 5) all.add(event[2]);
            if (event[1] == m && event[0] == 4 && well.remove((Integer) event[2])) ill.add(event[2]);
        }
        int[][] sums = new int[8][];
        for (int x = 0; x < 8; x++) sums[x] = sum(all, ill, 0, x);
        for (int[] event : till(m)) {
            if (event[0] != 6) continue;
            for (int k = 0; k < 2; k++) {
                sums[event[2]][k] -= sums[event[2]][k] > 0 ? 1 : 0;
                sums[event[3]][k] += 1;
            }
        }
        for (int x = 0; x < 8; x++) {
            if (mondays.get(m)[0] == 1 && land.indoors[x]) sums[x][0] = 0;
            if (!agrees(m, x, sums[x])) return x;
        }
        return NONE;
    }

    int doubts(int house) {
        if (people(house) == null) return BAD;
        int doubts = 0;
        for (int[] monday : mondays) {
            for (int x = 0; x < 8; x++) {
                int[] sum = sum(people(house), List.of(), monday[0], x);
                if (monday[2 + x] < sum[0]) doubts += sum[0] - monday[2 + x];
                if (monday[2 + x] > sum[1]) doubts += monday[2 + x] - sum[1];
            }
        }
        return doubts;
    }

    int least() {
        int best = -1;
        for (int n = 0; n <= 5; n++) {
            for (int house : houses()) {
                if (people(house).size() == n && (best < 0 || doubts(house) < doubts(best))) best = house;
            }
        }
        asked = doubts(best);
        return best;
    }

    int see(int weather) {
        if (weather < 0 || weather > 1) return BAD;
        int best = search(new Only());
        if (best == FAR || mondays.isEmpty()) return finds(4);
        List<Integer> last = new ArrayList<>();
        for (int house : houses()) {
            Only only = new Only();
            only.day = mondays.size() - 1;
            only.house = house;
            if (search(only) == best) last.add(house);
        }
        int[] pairs = new int[8];
        for (int x = 0; x < 8; x++) {
            for (int one : last) {
                for (int other : last) {
                    int most = sum(people(one), List.of(), weather, x)[1];
                    if (most < sum(people(other), List.of(), weather, x)[0]) pairs[x]++;
                }
            }
        }
        int thing = 0;
        for (int x = 0; x < 8; x++) if (pairs[x] > pairs[thing]) thing = x;
        asked = pairs[thing];
        return thing;
    }

    // ---- what is told

    int asked() {
        return asked;
    }

    long tales() {
        return tales;
    }

    long upper() {
        return upper;
    }

    long lower() {
        return lower;
    }

    int count(int what) {
        int[] counts = {sorts(), mondays.size(), events.size(), 0, 0, 0};
        for (int[] event : events) counts[3] += event[0] == 1 || event[0] == 5 ? 1 : 0;
        for (int[] row : rows) counts[4] += row != null ? 1 : 0;
        for (byte[] text : texts) counts[5] += text != null ? 1 : 0;
        return what < 0 || what > 5 ? BAD : counts[what];
    }

    int finding() {
        return finding;
    }

    int findings(int f) {
        return f < 1 || f > 5 ? BAD : findings[f];
    }

    long digest() {
        List<Long> v = new ArrayList<>();
        for (int what = 0; what < 6; what++) v.add((long) count(what));
        for (int s = 0; s < sorts(); s++) {
            v.add((long) grows(s));
            for (int[] hangs : land.hangs[s]) {
                v.add((long) hangs[0]);
                v.add((long) hangs[1]);
            }
        }
        v.add((long) indoors());
        for (int price : land.prices) v.add((long) price);
        for (int[] monday : mondays) for (int told : monday) v.add((long) told);
        for (int[] event : events) for (int told : event) v.add((long) told);
        for (int[] row : rows) {
            v.add(row == null ? -1L : row.length);
            if (row != null) for (int place : row) v.add((long) place);
        }
        for (byte[] text : texts) {
            v.add(text == null ? -1L : text.length);
            if (text != null) for (byte place : text) v.add((long) place);
        }
        long h = 17;
        for (long each : v) h = 31 * h + each;
        return h;
    }
}

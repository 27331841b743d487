import java.util.Arrays;

/**
 * What hung on the line: a house that nobody goes into, by what hangs on its line on Mondays.
 *
 * <p>The words in capitals (ROW, TEXT, WORLD, HOUSEHOLD, MONDAY, TALE ..) are those of the document.
 */
public final class WashLine {
    public static final int BAD = -1, FULL = -2, FINDING = -3, STATE = -4, SPENT = -6, NONE = -9;

    private static final int NOTHING = 1, BEYOND = 2, UNLIKE = 3, NOUGHT = 4, SIZE = 5;
    private static final int FINDINGS = 5;

    private static final int ROWS = 6, ROW_SIZE = 40, TEXTS = 4, TEXT_SIZE = 120;
    private static final int BLANK = 32;

    private static final int SORTS = 6, THINGS = 8, PEOPLE = 5, PRICES = 5, FIGURES = 9;
    private static final int MONDAYS = 12, HUNG = 40, TOLD_OF_MONDAY = 2 + THINGS;

    /** How many HOUSEHOLDS there are of six SORTS and five people at most. */
    private static final int HOUSES = 462;

    /** Of a SORT the worth of its figure in the number of a HOUSEHOLD. */
    private static final int[] WORTHS = {1, 10, 100, 1000, 10000, 100000};

    private static final int COME = 1, GONE = 2, GROWN = 3, ILL = 4, GUEST = 5, HANDED = 6;
    private static final int HAPPENINGS = 16, TOLD_OF_HAPPENING = 4;

    private static final int PRICE_COME = 0, PRICE_GONE = 1, PRICE_GROWN = 2, PRICE_ILL = 3, PRICE_GUEST = 4;

    /** How a HOUSEHOLD is EXPLAINED: by itself, or one of these and the SORT. */
    private static final int BY_ITSELF = 0, BY_ILL = 10, BY_GUEST = 20;

    /** Dearer than any TALE (twelve times at most 99). */
    private static final int FAR = 1000000;

    /** Above all ways of growing: five people grow at most five times each on a shortest way. */
    private static final int GROWING_ROUNDS = 64;

    /** More TALES than these are not told. */
    private static final long MOST_TALES = 1000000000000000L;

    /** What six people hang of a THING is below this. */
    private static final int HEAP = 64;

    private final Strip[] rows = new Strip[ROWS];
    private final Strip[] texts = new Strip[TEXTS];
    private final World land = new World();
    private final Reader reader = new Reader();
    private final Houses houses = new Houses(land);
    private final Line line = new Line();
    private final Looks looks = new Looks(land, houses, line);
    private final Steps steps = new Steps(land, houses);
    private final Winter winter = new Winter(houses, line, looks, steps);
    private final Story story = new Story(land, line);
    private final int[] found = new int[FINDINGS + 1];
    private int lastFound = 0;
    private int lastAsked = 0;
    private long lastTales = 0;
    private long lastUpper = 0;
    private long lastLower = 1;

    public WashLine() {
        for (int r = 0; r < ROWS; r++) {
            rows[r] = new Strip(ROW_SIZE);
        }
        for (int t = 0; t < TEXTS; t++) {
            texts[t] = new Strip(TEXT_SIZE);
        }
    }

    // ---- 1 rows, texts, worlds, mondays

    public int row(int r, int n) {
        if (!isRow(r) || n > ROW_SIZE) {
            return BAD;
        }
        if (n < 0) {
            return finds(SIZE);
        }
        rows[r].begin(n, 0);
        return n;
    }

    public int lay(int r, int i, int v) {
        if (!isRow(r)) {
            return BAD;
        }
        if (rows[r].isMissing()) {
            return finds(NOTHING);
        }
        if (!rows[r].has(i)) {
            return finds(BEYOND);
        }
        return tells(rows[r].swap(i, v), 1);
    }

    public int at(int r, int i) {
        if (!isRow(r)) {
            return BAD;
        }
        if (rows[r].isMissing()) {
            return finds(NOTHING);
        }
        if (!rows[r].has(i)) {
            return finds(BEYOND);
        }
        return tells(rows[r].places[i], 1);
    }

    public int tear(int r) {
        if (!isRow(r)) {
            return BAD;
        }
        if (rows[r].isMissing()) {
            return finds(NOTHING);
        }
        rows[r].size = -1;
        return 1;
    }

    public int copy(int r, int i, int to, int j, int n) {
        if (!isRow(r) || !isRow(to)) {
            return BAD;
        }
        if (n < 0) {
            return finds(SIZE);
        }
        if (rows[r].isMissing() || rows[to].isMissing()) {
            return finds(NOTHING);
        }
        if (!rows[r].hasRun(i, n) || !rows[to].hasRun(j, n)) {
            return finds(BEYOND);
        }
        System.arraycopy(rows[r].places, i, rows[to].places, j, n);
        return 1;
    }

    public int mean(int r) {
        if (!isRow(r)) {
            return BAD;
        }
        if (rows[r].isMissing()) {
            return finds(NOTHING);
        }
        if (rows[r].size == 0) {
            return finds(NOUGHT);
        }
        return tells((int) (rows[r].sum() / rows[r].size), 1);
    }

    public int text(int t, int n) {
        if (!isText(t) || n > TEXT_SIZE) {
            return BAD;
        }
        if (n < 0) {
            return finds(SIZE);
        }
        texts[t].begin(n, BLANK);
        return n;
    }

    public int put(int t, int i, int v) {
        if (!isText(t)) {
            return BAD;
        }
        if (texts[t].isMissing()) {
            return finds(NOTHING);
        }
        if (!texts[t].has(i)) {
            return finds(BEYOND);
        }
        return texts[t].swap(i, (byte) v) + 1000;
    }

    public int fault(int t) {
        if (!isText(t)) {
            return BAD;
        }
        if (texts[t].isMissing()) {
            return finds(NOTHING);
        }
        return reader.read(texts[t]);
    }

    public int world(int t) {
        if (!isText(t)) {
            return BAD;
        }
        if (texts[t].isMissing()) {
            return finds(NOTHING);
        }
        if (reader.read(texts[t]) != NONE) {
            return STATE;
        }
        land.take(reader.target);
        houses.build();
        line.size = 0;
        story.size = 0;
        steps.forget();
        winter.forget();
        return land.sorts;
    }

    public int wears(int s, int x) {
        if (!isSort(s) || !isThing(x)) {
            return BAD;
        }
        return tells(land.most[s * THINGS + x], land.least[s * THINGS + x]);
    }

    public int grows(int s) {
        return isSort(s) ? land.into[s] : BAD;
    }

    public int indoors() {
        return land.inside;
    }

    public int price(int which, int v) {
        if (!isWithin(which, PRICES - 1) || v != NONE && !isWithin(v, FIGURES)) {
            return BAD;
        }
        int was = land.prices[which];
        if (v != NONE && v != was) {
            land.prices[which] = v;
            steps.forget();
            winter.forget();
        }
        return was;
    }

    public int monday(int weather, int r, int doubt) {
        if (!isWeather(weather) || !isRow(r) || !isWithin(doubt, FIGURES)) {
            return BAD;
        }
        if (rows[r].isMissing()) {
            return finds(NOTHING);
        }
        if (rows[r].size != THINGS) {
            return finds(SIZE);
        }
        if (!rows[r].holdsUpTo(HUNG)) {
            return finds(UNLIKE);
        }
        if (line.size >= MONDAYS) {
            return FULL;
        }
        winter.forget();
        return line.add(weather, rows[r].places, doubt);
    }

    public int hung(int m, int x, int n) {
        if (!isMonday(m) || !isThing(x) || !isWithin(n, HUNG)) {
            return BAD;
        }
        int was = line.hung[m * THINGS + x];
        if (n != was) {
            line.hung[m * THINGS + x] = n;
            winter.forget();
        }
        return was;
    }

    public int told(int m, int what) {
        if (!isMonday(m) || !isWithin(what, TOLD_OF_MONDAY - 1)) {
            return BAD;
        }
        return tells(line.detail(m, what), 1);
    }

    public int back(int n) {
        if (!isWithin(n, line.size)) {
            return BAD;
        }
        int went = line.size - n;
        if (went > 0) {
            line.size = n;
            winter.forget();
        }
        return went;
    }

    // ---- 2 households

    public int hangs(int house, int weather, int x) {
        int h = houses.find(house);
        if (h < 0 || !isWeather(weather) || !isThing(x)) {
            return BAD;
        }
        return tells(houses.most[h * THINGS + x], houses.leastIn(h, weather, x));
    }

    public int explains(int m, int house) {
        int h = houses.find(house);
        if (h < 0 || !isMonday(m)) {
            return BAD;
        }
        int how = looks.explain(m, h);
        return how == NONE ? NONE : tells(how, looks.priceOf(how));
    }

    public int lacks(int m, int house) {
        int h = houses.find(house);
        if (h < 0 || !isMonday(m)) {
            return BAD;
        }
        return tells(looks.tooMuch(m, h), looks.tooLittle(m, h));
    }

    public int fewest(int m) {
        if (!isMonday(m)) {
            return BAD;
        }
        int h = looks.smallest(m);
        return h < 0 ? NONE : tells(houses.number[h], houses.all[h]);
    }

    public int bound(int m) {
        return isMonday(m) ? looks.peopleByThings(m) : BAD;
    }

    public int many(int m, int most) {
        if (!isMonday(m) || !isWithin(most, FIGURES)) {
            return BAD;
        }
        return looks.explained(m, most);
    }

    public int step(int house, int other) {
        int from = houses.find(house);
        int to = houses.find(other);
        if (from < 0 || to < 0) {
            return BAD;
        }
        steps.know(from);
        return steps.between(from, to);
    }

    // ---- 3 tales

    public int plain() {
        winter.weigh();
        return winter.isTold() ? winter.best : NONE;
    }

    public int tale(int r) {
        if (!isRow(r)) {
            return BAD;
        }
        winter.weigh();
        if (!winter.isTold()) {
            return finds(NOUGHT);
        }
        rows[r].begin(line.size, 0);
        for (int m = 0; m < line.size; m++) {
            rows[r].places[m] = houses.number[winter.first[m]];
        }
        return line.size;
    }

    public int ways() {
        winter.weigh();
        winter.countWays();
        if (winter.total > MOST_TALES) {
            return SPENT;
        }
        lastTales = winter.total;
        return winter.total > 0 ? 1 : 0;
    }

    public int sure(int m, int s) {
        if (!isMonday(m) || !isSort(s)) {
            return BAD;
        }
        winter.weigh();
        if (!winter.isTold()) {
            return finds(NOUGHT);
        }
        return tells(winter.mostOf(m, s), winter.leastOf(m, s));
    }

    public int share(int m, int s, int n) {
        if (!isMonday(m) || !isSort(s) || !isWithin(n, PEOPLE)) {
            return BAD;
        }
        winter.weigh();
        if (!winter.isTold()) {
            return finds(NOUGHT);
        }
        winter.countWays();
        if (winter.total > MOST_TALES) {
            return SPENT;
        }
        tellFraction(winter.having(m, s, n), winter.total);
        return 1;
    }

    public int through(int m, int house) {
        int h = houses.find(house);
        if (h < 0 || !isMonday(m)) {
            return BAD;
        }
        winter.weigh();
        int cost = winter.costBy(m, h);
        return cost < FAR ? cost : NONE;
    }

    public int rival(int m) {
        if (!isMonday(m)) {
            return BAD;
        }
        winter.weigh();
        if (!winter.isTold()) {
            return finds(NOUGHT);
        }
        int h = winter.other(m);
        return h < 0 ? NONE : tells(houses.number[h], winter.costBy(m, h));
    }

    // ---- 4 happenings, doubts, what to see

    public int happen(int m, int kind, int a, int b) {
        if (!isWithin(m, MONDAYS - 1) || !isWithin(kind, HANDED)) {
            return BAD;
        }
        if (kind == HANDED && (!isThing(a) || !isThing(b) || a == b)) {
            return BAD;
        }
        boolean ofSort = kind != 0 && kind != HANDED;
        if (ofSort && !isSort(a)) {
            return BAD;
        }
        if (story.size >= HAPPENINGS) {
            return FULL;
        }
        return story.add(m, kind, kind == 0 ? 0 : a, kind == HANDED ? b : 0);
    }

    public int event(int e, int what) {
        if (!isHappening(e) || !isWithin(what, TOLD_OF_HAPPENING - 1)) {
            return BAD;
        }
        return tells(story.detail(e, what), 1);
    }

    public int mark(int e, int kind) {
        if (!isHappening(e) || kind == 0 || !isWithin(kind, HANDED)) {
            return BAD;
        }
        return story.is(e, kind) ? story.tell(e, kind) : finds(UNLIKE);
    }

    public int household(int m) {
        if (!isWithin(m, MONDAYS - 1)) {
            return BAD;
        }
        return story.live(m) ? story.number() : NONE;
    }

    public int judge() {
        int m = story.firstOff();
        return m == NONE ? NONE : tells(story.offThing, m);
    }

    public int doubts(int house) {
        int h = houses.find(house);
        return h < 0 ? BAD : looks.doubted(h);
    }

    public int least() {
        int h = looks.leastDoubted();
        return tells(looks.doubted(h), houses.number[h]);
    }

    public int see(int weather) {
        if (!isWeather(weather)) {
            return BAD;
        }
        winter.weigh();
        if (!winter.isTold() || line.size == 0) {
            return finds(NOUGHT);
        }
        int best = 0;
        int most = winter.parted(weather, 0);
        for (int x = 1; x < THINGS; x++) {
            int pairs = winter.parted(weather, x);
            if (pairs > most) {
                best = x;
                most = pairs;
            }
        }
        return tells(most, best);
    }

    // ---- 5 what is told

    public int asked() {
        return lastAsked;
    }

    public long tales() {
        return lastTales;
    }

    public long upper() {
        return lastUpper;
    }

    public long lower() {
        return lastLower;
    }

    public int count(int what) {
        switch (what) {
            case 0:
                return land.sorts;
            case 1:
                return line.size;
            case 2:
                return story.size;
            case 3:
                return story.comes();
            case 4:
                return there(rows);
            case 5:
                return there(texts);
            default:
                return BAD;
        }
    }

    public int finding() {
        return lastFound;
    }

    public int findings(int f) {
        return f >= 1 && f <= FINDINGS ? found[f] : BAD;
    }

    public long digest() {
        long h = 17;
        for (int what = 0; what < 6; what++) {
            h = 31 * h + count(what);
        }
        h = land.digestOn(h);
        h = line.digestOn(h);
        h = story.digestOn(h);
        for (Strip row : rows) {
            h = row.digestOn(h);
        }
        for (Strip text : texts) {
            h = text.digestOn(h);
        }
        return h;
    }

    // ---- what the calls share

    /** The FINDING is kept, and answered. */
    private int finds(int f) {
        lastFound = f;
        found[f]++;
        return FINDING;
    }

    /** What asked() tells from now on, and the answer. */
    private int tells(int told, int answer) {
        lastAsked = told;
        return answer;
    }

    /** The fraction in lowest terms; the lower number is above 0. */
    private void tellFraction(long above, long below) {
        long divisor = commonDivisor(above, below);
        if (divisor > 0) {
            lastUpper = above / divisor;
            lastLower = below / divisor;
        }
    }

    private static long commonDivisor(long a, long b) {
        long high = b;
        long low = a;
        // Euclid's rests halve in two rounds: a hundred and thirty are enough for any two longs.
        for (int round = 0; round < 200 && low != 0; round++) {
            long rest = high % low;
            high = low;
            low = rest;
        }
        return high;
    }

    private static int there(Strip[] strips) {
        int n = 0;
        for (Strip strip : strips) {
            if (!strip.isMissing()) {
                n++;
            }
        }
        return n;
    }

    private static boolean isWithin(int v, int most) {
        return v >= 0 && v <= most;
    }

    private static boolean isRow(int r) {
        return isWithin(r, ROWS - 1);
    }

    private static boolean isText(int t) {
        return isWithin(t, TEXTS - 1);
    }

    private static boolean isThing(int x) {
        return isWithin(x, THINGS - 1);
    }

    private static boolean isWeather(int w) {
        return isWithin(w, 1);
    }

    private boolean isSort(int s) {
        return isWithin(s, land.sorts - 1);
    }

    private boolean isMonday(int m) {
        return isWithin(m, line.size - 1);
    }

    private boolean isHappening(int e) {
        return isWithin(e, story.size - 1);
    }

    /** A ROW or a TEXT: numbers side by side, or missing (size -1). */
    private static final class Strip {
        final int[] places;
        int size = -1;

        Strip(int room) {
            places = new int[room];
        }

        void begin(int n, int v) {
            size = n;
            Arrays.fill(places, v);
        }

        boolean isMissing() {
            return size < 0;
        }

        boolean has(int i) {
            return i >= 0 && i < size;
        }

        /** Whether n places stand there from place i on; i may be the end, if n is 0. */
        boolean hasRun(int i, int n) {
            return i >= 0 && n <= size && i <= size - n;
        }

        int swap(int i, int v) {
            int was = places[i];
            places[i] = v;
            return was;
        }

        long sum() {
            long sum = 0;
            for (int i = 0; i < size; i++) {
                sum += places[i];
            }
            return sum;
        }

        boolean holdsUpTo(int most) {
            for (int i = 0; i < size; i++) {
                if (places[i] < 0 || places[i] > most) {
                    return false;
                }
            }
            return true;
        }

        long digestOn(long h) {
            long sum = 31 * h + size;
            for (int i = 0; i < size; i++) {
                sum = 31 * sum + places[i];
            }
            return sum;
        }
    }

    /** SORTS of people, what they hang, what dries indoors, PRICES. */
    private static final class World {
        int sorts;
        final int[] into = new int[SORTS];
        final int[] least = new int[SORTS * THINGS];
        final int[] most = new int[SORTS * THINGS];
        int inside;
        final int[] prices = new int[PRICES];

        World() {
            clear();
        }

        final void clear() {
            sorts = 0;
            inside = 0;
            Arrays.fill(into, NONE);
            Arrays.fill(least, 0);
            Arrays.fill(most, 0);
            prices[PRICE_COME] = 3;
            prices[PRICE_GONE] = 3;
            prices[PRICE_GROWN] = 1;
            prices[PRICE_ILL] = 2;
            prices[PRICE_GUEST] = 2;
        }

        void take(World other) {
            sorts = other.sorts;
            inside = other.inside;
            System.arraycopy(other.into, 0, into, 0, SORTS);
            System.arraycopy(other.least, 0, least, 0, SORTS * THINGS);
            System.arraycopy(other.most, 0, most, 0, SORTS * THINGS);
            System.arraycopy(other.prices, 0, prices, 0, PRICES);
        }

        /** Whether nothing at least hangs of a THING in a WEATHER. */
        boolean isInside(int weather, int x) {
            return weather == 1 && (inside >> x & 1) == 1;
        }

        /** Who would grow into a SORT that was never told grows into none. */
        void growIntoToldOnly() {
            for (int s = 0; s < SORTS; s++) {
                if (into[s] >= sorts) {
                    into[s] = NONE;
                }
            }
        }

        long digestOn(long h) {
            long sum = h;
            for (int s = 0; s < sorts; s++) {
                sum = 31 * sum + into[s];
                for (int i = s * THINGS; i < (s + 1) * THINGS; i++) {
                    sum = 31 * sum + least[i];
                    sum = 31 * sum + most[i];
                }
            }
            sum = 31 * sum + inside;
            for (int price : prices) {
                sum = 31 * sum + price;
            }
            return sum;
        }
    }

    /** Reads a TEXT as a WORLD, up to its FAULT. */
    private static final class Reader {
        private static final int END = 1000;
        private Strip source = new Strip(0);
        private int place;
        /** What was read last: a WORLD, if there was no FAULT. */
        final World target = new World();

        /** The FAULT, or NONE. */
        int read(Strip from) {
            source = from;
            place = 0;
            target.clear();
            boolean good = true;
            for (int turn = 0; good && place < source.size && turn < TEXT_SIZE; turn++) {
                good = letter(BLANK) || item();
            }
            target.growIntoToldOnly();
            return good ? NONE : place;
        }

        /** The sign at the place: a byte, or END. */
        private int sign() {
            return source.has(place) ? source.places[place] : END;
        }

        private boolean item() {
            switch (sign()) {
                case 'k':
                    return sort();
                case 'w':
                    return wash();
                case 'i':
                    return inside();
                case 'c':
                    return costs();
                default:
                    return false;
            }
        }

        private boolean sort() {
            if (target.sorts >= SORTS) {
                return false;
            }
            place++;
            int into = letter('-') ? NONE : figure(0, SORTS - 1);
            if (into == BAD) {
                return false;
            }
            target.into[target.sorts] = into;
            target.sorts++;
            return true;
        }

        private boolean wash() {
            place++;
            int s = figure(0, target.sorts - 1);
            if (s < 0 || !letter('t')) {
                return false;
            }
            int x = figure(0, THINGS - 1);
            if (x < 0 || !letter(':')) {
                return false;
            }
            int low = figure(0, FIGURES);
            if (low < 0 || !letter('-')) {
                return false;
            }
            int high = figure(low, FIGURES);
            if (high < 0) {
                return false;
            }
            target.least[s * THINGS + x] = low;
            target.most[s * THINGS + x] = high;
            return true;
        }

        private boolean inside() {
            place++;
            int x = figure(0, THINGS - 1);
            if (x < 0) {
                return false;
            }
            target.inside |= 1 << x;
            return true;
        }

        private boolean costs() {
            place++;
            for (int which = 0; which < PRICES; which++) {
                int v = figure(0, FIGURES);
                if (v < 0) {
                    return false;
                }
                target.prices[which] = v;
            }
            return true;
        }

        /** Whether the letter stands at the place, which is passed then. */
        private boolean letter(int due) {
            if (sign() != due) {
                return false;
            }
            place++;
            return true;
        }

        /** The figure at the place, which is passed; BAD, if none such stands there. */
        private int figure(int low, int high) {
            int v = sign() - '0';
            if (v < low || v > high) {
                return BAD;
            }
            place++;
            return v;
        }
    }

    /** All HOUSEHOLDS of the SORTS that there are, by their numbers, and what they HANG. */
    private static final class Houses {
        private final World land;
        int size;
        final int[] number = new int[HOUSES];
        final int[] all = new int[HOUSES];
        final int[] people = new int[HOUSES * SORTS];
        /** Which HOUSEHOLD it is with one of a SORT more, less, grown (-1: none). */
        final int[] more = new int[HOUSES * SORTS];
        final int[] less = new int[HOUSES * SORTS];
        final int[] older = new int[HOUSES * SORTS];
        final int[] least = new int[HOUSES * THINGS];
        final int[] most = new int[HOUSES * THINGS];

        Houses(World land) {
            this.land = land;
            build();
        }

        final void build() {
            list();
            for (int h = 0; h < size; h++) {
                for (int s = 0; s < SORTS; s++) {
                    more[h * SORTS + s] = s < land.sorts ? find(number[h] + WORTHS[s]) : -1;
                    less[h * SORTS + s] = people[h * SORTS + s] > 0 ? find(number[h] - WORTHS[s]) : -1;
                }
                hang(h);
            }
            for (int h = 0; h < size; h++) {
                for (int s = 0; s < SORTS; s++) {
                    older[h * SORTS + s] = grown(h, s);
                }
            }
        }

        /** The next one has one more of the first SORT of which there is room, and none of those ahead. */
        private void list() {
            size = 1;
            number[0] = 0;
            all[0] = 0;
            Arrays.fill(people, 0, SORTS, 0);
            while (size < HOUSES && follow(size - 1, size)) {
                size++;
            }
        }

        /** Makes the next HOUSEHOLD from the last one; false: that was the last of all. */
        private boolean follow(int last, int next) {
            int rest = all[last];
            int begin = number[last];
            for (int s = 0; s < land.sorts; s++) {
                if (rest < PEOPLE) {
                    System.arraycopy(people, last * SORTS, people, next * SORTS, SORTS);
                    Arrays.fill(people, next * SORTS, next * SORTS + s, 0);
                    people[next * SORTS + s]++;
                    all[next] = rest + 1;
                    number[next] = begin + WORTHS[s];
                    return true;
                }
                rest -= people[last * SORTS + s];
                begin -= people[last * SORTS + s] * WORTHS[s];
            }
            return false;
        }

        /** Which HOUSEHOLD has the number; -1: none. */
        int find(int wanted) {
            int low = 0;
            int high = size - 1;
            while (low <= high) {
                int middle = (low + high) / 2;
                if (number[middle] == wanted) {
                    return middle;
                }
                if (number[middle] < wanted) {
                    low = middle + 1;
                } else {
                    high = middle - 1;
                }
            }
            return -1;
        }

        private int grown(int h, int s) {
            int without = less[h * SORTS + s];
            return without < 0 || land.into[s] < 0 ? -1 : more[without * SORTS + land.into[s]];
        }

        private void hang(int h) {
            for (int x = 0; x < THINGS; x++) {
                int low = 0;
                int high = 0;
                for (int s = 0; s < land.sorts; s++) {
                    low += people[h * SORTS + s] * land.least[s * THINGS + x];
                    high += people[h * SORTS + s] * land.most[s * THINGS + x];
                }
                least[h * THINGS + x] = low;
                most[h * THINGS + x] = high;
            }
        }

        int leastIn(int h, int weather, int x) {
            return land.isInside(weather, x) ? 0 : least[h * THINGS + x];
        }
    }

    /** The MONDAYS: WEATHER, DOUBT, what hung. */
    private static final class Line {
        int size = 0;
        final int[] weather = new int[MONDAYS];
        final int[] doubt = new int[MONDAYS];
        final int[] hung = new int[MONDAYS * THINGS];

        int add(int rain, int[] things, int unsure) {
            weather[size] = rain;
            doubt[size] = unsure;
            System.arraycopy(things, 0, hung, size * THINGS, THINGS);
            size++;
            return size - 1;
        }

        int detail(int m, int what) {
            if (what == 0) {
                return weather[m];
            }
            return what == 1 ? doubt[m] : hung[m * THINGS + what - 2];
        }

        boolean isAbove(int m, int x, int high) {
            return hung[m * THINGS + x] - doubt[m] > high;
        }

        boolean isBelow(int m, int x, int low) {
            return hung[m * THINGS + x] + doubt[m] < low;
        }

        long digestOn(long h) {
            long sum = h;
            for (int m = 0; m < size; m++) {
                for (int what = 0; what < TOLD_OF_MONDAY; what++) {
                    sum = 31 * sum + detail(m, what);
                }
            }
            return sum;
        }
    }

    /** HOUSEHOLDS held against MONDAYS. */
    private static final class Looks {
        private final World land;
        private final Houses houses;
        private final Line line;

        Looks(World land, Houses houses, Line line) {
            this.land = land;
            this.houses = houses;
            this.line = line;
        }

        private boolean agrees(int m, int h) {
            return agreesWith(m, h, 0, 0, 0);
        }

        /** Whether it AGREES with what lows, highs of a SORT hang at least, at most besides. */
        private boolean agreesWith(int m, int h, int s, int lows, int highs) {
            for (int x = 0; x < THINGS; x++) {
                int high = houses.most[h * THINGS + x] + highs * land.most[s * THINGS + x];
                int low = houses.least[h * THINGS + x] + lows * land.least[s * THINGS + x];
                if (line.isAbove(m, x, high) || line.isBelow(m, x, low) && !land.isInside(line.weather[m], x)) {
                    return false;
                }
            }
            return true;
        }

        /**
         * How a HOUSEHOLD is EXPLAINED at the least PRICE, or NONE. Never both by ILL and by a GUEST: who
         * HANGS too much at least does so with a GUEST, too, and who HANGS too little at most, with one ILL.
         */
        int explain(int m, int h) {
            if (agrees(m, h)) {
                return BY_ITSELF;
            }
            int ill = explainIll(m, h);
            return ill == NONE ? explainGuest(m, h) : ill;
        }

        private int explainIll(int m, int h) {
            for (int s = 0; s < land.sorts; s++) {
                if (houses.people[h * SORTS + s] > 0 && agreesWith(m, h, s, -1, 0)) {
                    return BY_ILL + s;
                }
            }
            return NONE;
        }

        private int explainGuest(int m, int h) {
            for (int s = 0; s < land.sorts; s++) {
                if (agreesWith(m, h, s, 1, 1)) {
                    return BY_GUEST + s;
                }
            }
            return NONE;
        }

        int priceOf(int how) {
            if (how < BY_ILL) {
                return 0;
            }
            return land.prices[how < BY_GUEST ? PRICE_ILL : PRICE_GUEST];
        }

        /** How many are EXPLAINED for a PRICE at most. */
        int explained(int m, int price) {
            int n = 0;
            for (int h = 0; h < houses.size; h++) {
                int how = explain(m, h);
                if (how != NONE && priceOf(how) <= price) {
                    n++;
                }
            }
            return n;
        }

        int tooLittle(int m, int h) {
            int bits = 0;
            for (int x = 0; x < THINGS; x++) {
                if (line.isBelow(m, x, houses.leastIn(h, line.weather[m], x))) {
                    bits |= 1 << x;
                }
            }
            return bits;
        }

        int tooMuch(int m, int h) {
            int bits = 0;
            for (int x = 0; x < THINGS; x++) {
                if (line.isAbove(m, x, houses.most[h * THINGS + x])) {
                    bits |= 1 << x;
                }
            }
            return bits;
        }

        /** The HOUSEHOLD of the fewest people that AGREES by itself; -1: none. */
        int smallest(int m) {
            int best = -1;
            for (int h = 0; h < houses.size; h++) {
                if ((best < 0 || houses.all[h] < houses.all[best]) && agrees(m, h)) {
                    best = h;
                }
            }
            return best;
        }

        /** People by THINGS; NONE: a THING that hung none hangs. */
        int peopleByThings(int m) {
            int most = 0;
            for (int x = 0; x < THINGS; x++) {
                int n = line.hung[m * THINGS + x] - line.doubt[m];
                int each = mostOfAny(x);
                if (n > 0 && each <= 0) {
                    return NONE;
                }
                if (n > 0) {
                    most = Math.max(most, (n + each - 1) / each);
                }
            }
            return most;
        }

        private int mostOfAny(int x) {
            int most = 0;
            for (int s = 0; s < land.sorts; s++) {
                most = Math.max(most, land.most[s * THINGS + x]);
            }
            return most;
        }

        int doubted(int h) {
            int sum = 0;
            for (int m = 0; m < line.size; m++) {
                for (int x = 0; x < THINGS; x++) {
                    int n = line.hung[m * THINGS + x];
                    sum += Math.max(0, houses.leastIn(h, line.weather[m], x) - n);
                    sum += Math.max(0, n - houses.most[h * THINGS + x]);
                }
            }
            return sum;
        }

        int leastDoubted() {
            int best = 0;
            int fewest = doubted(0);
            for (int h = 1; h < houses.size; h++) {
                int n = doubted(h);
                if (n < fewest || n == fewest && houses.all[h] < houses.all[best]) {
                    best = h;
                    fewest = n;
                }
            }
            return best;
        }
    }

    /** STEPS from HOUSEHOLDS to others. */
    private static final class Steps {
        private final World land;
        private final Houses houses;
        private final int[] wave = new int[HOUSES];
        /** STEPS worked out so far, a row for each HOUSEHOLD from which they go. */
        private byte[] known = new byte[0];
        private final boolean[] isKnown = new boolean[HOUSES];

        Steps(World land, Houses houses) {
            this.land = land;
            this.houses = houses;
        }

        void forget() {
            for (int h = 0; h < HOUSES; h++) {
                isKnown[h] = false;
            }
        }

        /** Works out the STEPS from a HOUSEHOLD, if they are not known yet. */
        void know(int from) {
            if (isKnown[from]) {
                return;
            }
            int n = houses.size;
            if (known.length < n * n) {
                known = new byte[n * n];
            }
            Arrays.fill(wave, FAR);
            wave[from] = 0;
            spread(wave);
            for (int h = 0; h < n; h++) {
                // At most five gone and five come at 9 each: a byte holds it.
                known[from * n + h] = (byte) wave[h];
            }
            isKnown[from] = true;
        }

        /** The PRICE of a STEP from a HOUSEHOLD whose STEPS are known. */
        int between(int from, int to) {
            return known[from * houses.size + to];
        }

        /**
         * Of each HOUSEHOLD the least cost to come there, from what it costs to be in each.
         * Who grows and is then gone costs no less than who is gone at once, and who comes and then
         * grows no less than who comes grown: so gone first, then grown, then come, and never above five.
         */
        void spread(int[] costs) {
            fromMore(costs, land.prices[PRICE_GONE]);
            grow(costs);
            fromLess(costs, land.prices[PRICE_COME]);
        }

        /** Likewise backwards: of each HOUSEHOLD the least cost to go on from there. */
        void gather(int[] costs) {
            fromMore(costs, land.prices[PRICE_COME]);
            growBack(costs);
            fromLess(costs, land.prices[PRICE_GONE]);
        }

        /** One more has the higher number: from above, each is final when it is used. */
        private void fromMore(int[] costs, int price) {
            for (int h = houses.size - 1; h >= 0; h--) {
                costs[h] = leastOf(costs, houses.more, h, price);
            }
        }

        private void fromLess(int[] costs, int price) {
            for (int h = 0; h < houses.size; h++) {
                costs[h] = leastOf(costs, houses.less, h, price);
            }
        }

        /** The cost of a HOUSEHOLD, or of one beside it and a PRICE. */
        private int leastOf(int[] costs, int[] beside, int h, int price) {
            int least = costs[h];
            for (int i = h * SORTS; i < h * SORTS + land.sorts; i++) {
                if (beside[i] >= 0 && costs[beside[i]] + price < least) {
                    least = costs[beside[i]] + price;
                }
            }
            return least;
        }

        /** SORTS may grow in rings: again, until nothing changes. */
        private void grow(int[] costs) {
            boolean changed = true;
            for (int round = 0; changed && round < GROWING_ROUNDS; round++) {
                changed = false;
                for (int h = 0; h < houses.size; h++) {
                    if (growOne(costs, h)) {
                        changed = true;
                    }
                }
            }
        }

        private boolean growOne(int[] costs, int h) {
            int cost = costs[h] + land.prices[PRICE_GROWN];
            boolean changed = false;
            for (int i = h * SORTS; i < h * SORTS + land.sorts; i++) {
                if (houses.older[i] >= 0 && cost < costs[houses.older[i]]) {
                    costs[houses.older[i]] = cost;
                    changed = true;
                }
            }
            return changed;
        }

        private void growBack(int[] costs) {
            int price = land.prices[PRICE_GROWN];
            boolean changed = true;
            for (int round = 0; changed && round < GROWING_ROUNDS; round++) {
                changed = false;
                for (int h = houses.size - 1; h >= 0; h--) {
                    int least = leastOf(costs, houses.older, h, price);
                    if (least < costs[h]) {
                        costs[h] = least;
                        changed = true;
                    }
                }
            }
        }
    }

    /** The TALES of the MONDAYS; worked out when asked for, and kept till something changes. */
    private static final class Winter {
        private final Houses houses;
        private final Line line;
        private final Looks looks;
        private final Steps steps;
        private boolean weighed = false;
        private boolean counted = false;
        /** The cost of PLAIN TALES; FAR: there is none. */
        int best = 0;
        /** How many PLAIN TALES there are, one above MOST_TALES for all above. */
        long total = 0;
        /** The HOUSEHOLDS of the first PLAIN TALE. */
        final int[] first = new int[MONDAYS];
        private final int[] wave = new int[HOUSES];
        /** Of MONDAYS and HOUSEHOLDS: the PRICE that EXPLAINS, the cost up to there, the cost behind. */
        private final int[] prices = new int[MONDAYS * HOUSES];
        private final int[] ahead = new int[MONDAYS * HOUSES];
        private final int[] behind = new int[MONDAYS * HOUSES];
        /** Of MONDAYS the HOUSEHOLDS of PLAIN TALES, and how many. */
        private final int[] listed = new int[MONDAYS * HOUSES];
        private final int[] lists = new int[MONDAYS];
        /** Of MONDAYS and HOUSEHOLDS in how many ways a PLAIN TALE comes there, goes on from there. */
        private final long[] waysTo = new long[MONDAYS * HOUSES];
        private final long[] waysOn = new long[MONDAYS * HOUSES];
        private final int[] heap = new int[HEAP];

        Winter(Houses houses, Line line, Looks looks, Steps steps) {
            this.houses = houses;
            this.line = line;
            this.looks = looks;
            this.steps = steps;
        }

        void forget() {
            weighed = false;
            counted = false;
        }

        /** Whether there is a TALE. */
        boolean isTold() {
            return best < FAR;
        }

        void weigh() {
            if (weighed) {
                return;
            }
            weighed = true;
            for (int m = 0; m < line.size; m++) {
                setPrices(m);
            }
            best = goAhead();
            if (isTold()) {
                goBack();
                for (int m = 0; m < line.size; m++) {
                    list(m);
                }
                findFirst();
            }
        }

        private void setPrices(int m) {
            for (int h = 0; h < houses.size; h++) {
                int how = looks.explain(m, h);
                prices[m * HOUSES + h] = how == NONE ? FAR : looks.priceOf(how);
            }
        }

        /** From nobody on; answers the least cost behind the last MONDAY. */
        private int goAhead() {
            Arrays.fill(wave, FAR);
            wave[0] = 0;
            for (int m = 0; m < line.size; m++) {
                steps.spread(wave);
                explain(m);
                System.arraycopy(wave, 0, ahead, m * HOUSES, HOUSES);
            }
            int least = FAR;
            for (int h = 0; h < houses.size; h++) {
                least = Math.min(least, wave[h]);
            }
            return least;
        }

        private void goBack() {
            Arrays.fill(wave, 0);
            for (int m = line.size - 1; m >= 0; m--) {
                System.arraycopy(wave, 0, behind, m * HOUSES, HOUSES);
                explain(m);
                steps.gather(wave);
            }
        }

        private void explain(int m) {
            for (int h = 0; h < houses.size; h++) {
                wave[h] = Math.min(FAR, wave[h] + prices[m * HOUSES + h]);
            }
        }

        private void list(int m) {
            int n = 0;
            for (int h = 0; h < houses.size; h++) {
                if (costBy(m, h) == best) {
                    listed[m * HOUSES + n] = h;
                    n++;
                }
            }
            lists[m] = n;
        }

        /** The first of a list is the least number: so the first TALE takes ever the first that fits. */
        private void findFirst() {
            for (int m = 0; m < line.size; m++) {
                boolean looking = true;
                if (m > 0) {
                    steps.know(first[m - 1]);
                }
                for (int i = 0; looking && i < lists[m]; i++) {
                    int h = listed[m * HOUSES + i];
                    if (m == 0 || follows(m - 1, first[m - 1], h)) {
                        first[m] = h;
                        looking = false;
                    }
                }
            }
        }

        /** Whether a PLAIN TALE goes from a HOUSEHOLD of PLAIN TALES (its STEPS known) to one of the next MONDAY. */
        private boolean follows(int m, int from, int to) {
            int next = (m + 1) * HOUSES + to;
            return ahead[m * HOUSES + from] + steps.between(from, to) + prices[next] == ahead[next];
        }

        /** The least cost of a TALE with a HOUSEHOLD on a MONDAY; FAR or more: none. */
        int costBy(int m, int h) {
            return isTold() ? ahead[m * HOUSES + h] + behind[m * HOUSES + h] : FAR;
        }

        /** The best HOUSEHOLD besides that of the first PLAIN TALE; -1: none. */
        int other(int m) {
            int found = -1;
            int least = FAR;
            for (int h = 0; h < houses.size; h++) {
                if (h != first[m] && costBy(m, h) < least) {
                    found = h;
                    least = costBy(m, h);
                }
            }
            return found;
        }

        int leastOf(int m, int s) {
            int n = PEOPLE;
            for (int i = 0; i < lists[m]; i++) {
                n = Math.min(n, houses.people[listed[m * HOUSES + i] * SORTS + s]);
            }
            return n;
        }

        int mostOf(int m, int s) {
            int n = 0;
            for (int i = 0; i < lists[m]; i++) {
                n = Math.max(n, houses.people[listed[m * HOUSES + i] * SORTS + s]);
            }
            return n;
        }

        /** Counts PLAIN TALES, when they are weighed; the ways that come somewhere only of so few as are told. */
        void countWays() {
            if (counted) {
                return;
            }
            counted = true;
            total = isTold() ? 1 : 0;
            if (isTold() && line.size > 0) {
                for (int m = line.size - 1; m >= 0; m--) {
                    countOn(m);
                }
                total = 0;
                for (int i = 0; i < lists[0]; i++) {
                    total = capped(total + waysOn[listed[i]]);
                }
                for (int m = 0; m < line.size && total <= MOST_TALES; m++) {
                    countTo(m);
                }
            }
        }

        private void countOn(int m) {
            boolean isLast = m == line.size - 1;
            for (int i = 0; i < lists[m]; i++) {
                int h = listed[m * HOUSES + i];
                long sum = isLast ? 1 : 0;
                steps.know(h);
                for (int j = 0; !isLast && j < lists[m + 1]; j++) {
                    int to = listed[(m + 1) * HOUSES + j];
                    if (follows(m, h, to)) {
                        sum = capped(sum + waysOn[(m + 1) * HOUSES + to]);
                    }
                }
                waysOn[m * HOUSES + h] = sum;
            }
        }

        private void countTo(int m) {
            for (int i = 0; i < lists[m]; i++) {
                int h = listed[m * HOUSES + i];
                long sum = m == 0 ? 1 : 0;
                for (int j = 0; m > 0 && j < lists[m - 1]; j++) {
                    int from = listed[(m - 1) * HOUSES + j];
                    if (follows(m - 1, from, h)) {
                        sum = capped(sum + waysTo[(m - 1) * HOUSES + from]);
                    }
                }
                waysTo[m * HOUSES + h] = sum;
            }
        }

        /** So that no sum wraps around. */
        private static long capped(long n) {
            return Math.min(n, MOST_TALES + 1);
        }

        /** How many PLAIN TALES have n of a SORT on a MONDAY; asked only if all are few enough. */
        long having(int m, int s, int n) {
            long sum = 0;
            for (int i = 0; i < lists[m]; i++) {
                int h = listed[m * HOUSES + i];
                if (houses.people[h * SORTS + s] == n) {
                    sum += waysTo[m * HOUSES + h] * waysOn[m * HOUSES + h];
                }
            }
            return sum;
        }

        /** How many pairs of HOUSEHOLDS of the last MONDAY a THING parts in a WEATHER. */
        int parted(int weather, int x) {
            int last = line.size - 1;
            Arrays.fill(heap, 0);
            for (int i = 0; i < lists[last]; i++) {
                heap[houses.leastIn(listed[last * HOUSES + i], weather, x)]++;
            }
            for (int n = HEAP - 2; n >= 0; n--) {
                heap[n] += heap[n + 1];
            }
            int pairs = 0;
            for (int i = 0; i < lists[last]; i++) {
                pairs += heap[houses.most[listed[last * HOUSES + i] * THINGS + x] + 1];
            }
            return pairs;
        }
    }

    /** The HAPPENINGS, and the TOLD household. */
    private static final class Story {
        private final World land;
        private final Line line;
        int size = 0;
        private final int[] kinds = new int[HAPPENINGS];
        private final int[] days = new int[HAPPENINGS];
        private final int[] ones = new int[HAPPENINGS];
        private final int[] others = new int[HAPPENINGS];
        /** The TOLD household that lived last. */
        private final int[] people = new int[SORTS];
        private final int[] least = new int[THINGS];
        private final int[] most = new int[THINGS];
        /** The first THING that does not agree on the first such MONDAY (NONE: BROKEN). */
        int offThing = NONE;

        Story(World land, Line line) {
            this.land = land;
            this.line = line;
        }

        int add(int m, int kind, int a, int b) {
            kinds[size] = kind;
            days[size] = m;
            ones[size] = a;
            others[size] = b;
            size++;
            return size - 1;
        }

        int detail(int e, int what) {
            if (what == 0) {
                return kinds[e];
            }
            if (what == 1) {
                return days[e];
            }
            return what == 2 ? ones[e] : others[e];
        }

        boolean is(int e, int kind) {
            return kinds[e] == kind || kind == COME && kinds[e] == GUEST;
        }

        int comes() {
            int n = 0;
            for (int e = 0; e < size; e++) {
                n += is(e, COME) ? 1 : 0;
            }
            return n;
        }

        int tell(int e, int kind) {
            if (kind == HANDED) {
                return 10 * ones[e] + others[e];
            }
            if (kind == GUEST) {
                return live(days[e]) ? everybody() : NONE;
            }
            return ones[e];
        }

        /** The people of the TOLD household of a MONDAY; false: it is BROKEN by then. */
        boolean live(int m) {
            Arrays.fill(people, 0);
            for (int day = 0; day <= m; day++) {
                for (int e = 0; e < size; e++) {
                    if (days[e] == day && !comesTrue(e)) {
                        return false;
                    }
                }
            }
            return true;
        }

        private boolean comesTrue(int e) {
            switch (kinds[e]) {
                case COME:
                    return join(ones[e]);
                case GONE:
                    return leave(ones[e]);
                case GROWN:
                    return leave(ones[e]) && join(land.into[ones[e]]);
                default:
                    return true;
            }
        }

        private boolean join(int s) {
            if (s < 0 || everybody() >= PEOPLE) {
                return false;
            }
            people[s]++;
            return true;
        }

        private boolean leave(int s) {
            if (people[s] <= 0) {
                return false;
            }
            people[s]--;
            return true;
        }

        private int everybody() {
            int n = 0;
            for (int here : people) {
                n += here;
            }
            return n;
        }

        int number() {
            int n = 0;
            for (int s = 0; s < SORTS; s++) {
                n += people[s] * WORTHS[s];
            }
            return n;
        }

        /** The first MONDAY on which the TOLD household does not agree, or that is BROKEN; NONE: none. */
        int firstOff() {
            for (int m = 0; m < line.size; m++) {
                if (!isAgreed(m)) {
                    return m;
                }
            }
            return NONE;
        }

        private boolean isAgreed(int m) {
            offThing = NONE;
            if (!live(m)) {
                return false;
            }
            hang(m);
            for (int x = 0; x < THINGS; x++) {
                if (line.isAbove(m, x, most[x]) || line.isBelow(m, x, least[x])) {
                    offThing = x;
                    return false;
                }
            }
            return true;
        }

        /** What the TOLD household that lives HANGS on the MONDAY. */
        private void hang(int m) {
            Arrays.fill(least, 0);
            Arrays.fill(most, 0);
            for (int s = 0; s < land.sorts; s++) {
                int guests = among(m, GUEST, s);
                int ill = Math.min(among(m, ILL, s), people[s]);
                for (int x = 0; x < THINGS; x++) {
                    least[x] += (people[s] + guests - ill) * land.least[s * THINGS + x];
                    most[x] += (people[s] + guests) * land.most[s * THINGS + x];
                }
            }
            handDown(m);
            for (int x = 0; x < THINGS; x++) {
                if (land.isInside(line.weather[m], x)) {
                    least[x] = 0;
                }
            }
        }

        /** How many HAPPENINGS of a KIND a MONDAY has of a SORT. */
        private int among(int m, int kind, int s) {
            int n = 0;
            for (int e = 0; e < size; e++) {
                if (days[e] == m && kinds[e] == kind && ones[e] == s) {
                    n++;
                }
            }
            return n;
        }

        private void handDown(int m) {
            for (int day = 0; day <= m; day++) {
                for (int e = 0; e < size; e++) {
                    if (days[e] == day && kinds[e] == HANDED) {
                        handOver(ones[e], others[e]);
                    }
                }
            }
        }

        private void handOver(int x, int y) {
            least[x] = Math.max(0, least[x] - 1);
            most[x] = Math.max(0, most[x] - 1);
            least[y]++;
            most[y]++;
        }

        long digestOn(long h) {
            long sum = h;
            for (int e = 0; e < size; e++) {
                for (int what = 0; what < TOLD_OF_HAPPENING; what++) {
                    sum = 31 * sum + detail(e, what);
                }
            }
            return sum;
        }
    }
}

import java.util.Arrays;

/** People who stand on each other's shoulders, so that others are saved out of windows. */
public final class LadderOfRescued {
    public static final int NONE = -1, BAD = -2, STATE = -3, FULL = -4;
    public static final long NO = -4611686018427387904L;

    private static final int NO_SUCH_ONE = -5, UNFIT = -7;
    private static final int NOTHING_THERE = -11, PLACE_OUTSIDE = -12;
    private static final int OTHER_SORT = -13, SIZE_BELOW_0 = -14;
    private static final int FINE = 0;
    private static final int FIRST_FAULT = -100;

    private static final int MOST_PEOPLE = 8, MOST_TEXTS = 6, MOST_BYTES = 160;
    private static final int MOST_SHEETS = 4, MOST_NUMBERS = 40;
    private static final int MOST_SEARCHED = 5, MOST_MISSED = 4;
    private static final int MOST_HEIGHT = 99, MOST_STRONG = 999, MOST_WINDOW = 999;
    private static final int MOST_RUST = 999, MOST_SEED = 99999, MOST_SEEDS = 60;
    private static final int MOST_MORE = 9, LAST_RUNG = 7, YEARS_TRIED = 100;

    private static final int PERSON = 0, FARMER = 1, LADY = 2;
    private static final int CARTWRIGHT = 3, CHILD = 4, SLEEPER = 5;
    private static final int LAST_KIND = 5, SAVED_FLAG = 6;

    private static final int PART_TALL = 0, PART_BEARS = 1, PART_COMES = 2;
    private static final int MISSING = -1, INTS = 2;

    private static final long LOT_FACTOR = 48271L, LOT_MODULUS = 2147483647L;

    private static final String FIRST_LAW = "tall height ; bears strong ; comes 80 - rust * 5 ;";

    private final Crew now = new Crew();
    private final Crew kept = new Crew();
    private final Crew trial = new Crew();
    private boolean hasImage = false;
    private final Reader reader;
    private final Law[] texts = new Law[MOST_TEXTS];
    private int textCount = 0;
    private final Sheet[] sheets = new Sheet[MOST_SHEETS];
    private final Search search = new Search();
    private final int[] row = new int[MOST_PEOPLE];
    private final int[] ways = new int[1 << MOST_PEOPLE];

    public LadderOfRescued() {
        for (int t = 0; t < MOST_TEXTS; t++) {
            texts[t] = new Law();
        }
        for (int s = 0; s < MOST_SHEETS; s++) {
            sheets[s] = new Sheet();
        }
        reader = new Reader(texts[0]);
        for (int i = 0; i < FIRST_LAW.length(); i++) {
            reader.hear(FIRST_LAW.charAt(i));
        }
        reader.read(texts[0]);
        textCount = 1;
    }

    // ---- the law, people

    public int count(int what) {
        switch (what) {
            case 0: return now.people;
            case 1: return now.saved;
            case 2: return now.rust;
            case 3: return textCount;
            case 4: return now.law;
            case 5: return reader.size;
            default: return BAD;
        }
    }

    public int winters(int n) {
        if (!within(n, MOST_RUST)) {
            return BAD;
        }
        int was = now.rust;
        now.rust = n;
        return was;
    }

    public int feed(int n, int a, int b, int c, int d, int e) {
        boolean bytes = within(a, 255) && within(b, 255) && within(c, 255) && within(d, 255) && within(e, 255);
        if (n < 1 || n > 5 || !bytes) {
            return BAD;
        }
        if (reader.size + n > MOST_BYTES) {
            return FULL;
        }
        for (int i = 0; i < n; i++) {
            reader.hear(i == 0 ? a : i == 1 ? b : i == 2 ? c : i == 3 ? d : e);
        }
        return reader.size;
    }

    public int text() {
        if (textCount >= MOST_TEXTS) {
            return FULL;
        }
        int fault = reader.read(texts[textCount]);
        if (fault != NONE) {
            return FIRST_FAULT - fault;
        }
        textCount++;
        return textCount - 1;
    }

    public int force(int t) {
        if (!within(t, textCount - 1)) {
            return BAD;
        }
        int was = now.law;
        now.law = t;
        return was;
    }

    public int asks(int part, int p, int rung) {
        if (!within(part, 2) || !now.has(p) || !within(rung, LAST_RUNG)) {
            return BAD;
        }
        return says(now, part, p, rung);
    }

    public int person(int kindMore, int heightStrong) {
        return join(kindMore, heightStrong);
    }

    public int put(int p, int what, int v) {
        if (!now.has(p)) {
            return NO_SUCH_ONE;
        }
        if (!within(what, 1) || !within(v, what == 0 ? MOST_HEIGHT : MOST_STRONG)) {
            return UNFIT;
        }
        int[] values = what == 0 ? now.height : now.strong;
        int was = values[p];
        values[p] = v;
        return was;
    }

    public int feud(int a, int b, int is) {
        if (!now.has(a) || !now.has(b) || a == b) {
            return NO_SUCH_ONE;
        }
        if (!within(is, 1)) {
            return UNFIT;
        }
        int was = now.quarrel(a, b) ? 1 : 0;
        now.setQuarrel(a, b, is);
        now.setQuarrel(b, a, is);
        return was;
    }

    public int told(int p, int what) {
        if (!now.has(p)) {
            return NO_SUCH_ONE;
        }
        switch (what) {
            case 0: return now.height[p];
            case 1: return now.strong[p];
            case 2: return now.kind[p];
            case 3: return now.more[p];
            case 4: return now.feuds[p];
            case 5: return now.rungOf(p);
            default: return UNFIT;
        }
    }

    // ---- ladders, fires

    public int ladder(int what) {
        if (!within(what, 2)) {
            return BAD;
        }
        return measure(now, now.order, now.saved, what);
    }

    public int stand(int s, int what) {
        int refusal = sheetRefusal(s);
        if (refusal != FINE) {
            return refusal;
        }
        int n = takeRow(sheets[s]);
        if (n == NONE) {
            return BAD;
        }
        if (!within(what, 2)) {
            return UNFIT;
        }
        return measure(now, row, n, what);
    }

    public int fire(int p, int window) {
        if (!now.has(p)) {
            return NO_SUCH_ONE;
        }
        if (!within(window, MOST_WINDOW)) {
            return UNFIT;
        }
        if (now.rungOf(p) != NONE) {
            return STATE;
        }
        if (!serves(now, now.order, now.saved, window)) {
            return 0;
        }
        now.saveByFire(p);
        return 1;
    }

    public int door(int p) {
        if (!now.has(p)) {
            return NO_SUCH_ONE;
        }
        if (now.rungOf(p) != NONE) {
            return STATE;
        }
        now.save(p);
        return now.saved;
    }

    // ---- what is best

    public int highest(int n, int what) {
        if (!within(n, MOST_SEARCHED) || !within(what, 1)) {
            return BAD;
        }
        measureAll();
        search.run(n, now.savedBits());
        return what == 0 ? search.bestDigits : search.bestHigh;
    }

    public int fewest(int window) {
        if (!within(window, MOST_WINDOW)) {
            return BAD;
        }
        measureAll();
        for (int n = 0; n <= MOST_SEARCHED; n++) {
            search.run(n, now.savedBits());
            if (search.bestHigh >= window) {
                return n;
            }
        }
        return NONE;
    }

    public int missed(int what) {
        if (!within(what, 1)) {
            return BAD;
        }
        measureAll();
        int who = NONE;
        int least = 0;
        for (int i = 0; i < now.saved; i++) {
            int p = now.order[i];
            search.run(MOST_MISSED, now.savedBits() & ~(1 << p));
            if (who == NONE || search.bestHigh < least) {
                who = p;
                least = search.bestHigh;
            }
        }
        return what == 0 ? who : least;
    }

    public int next(int what) {
        if (!within(what, 1)) {
            return BAD;
        }
        int n = now.saved;
        int who = NONE;
        int most = highOf(now, now.order, n);
        System.arraycopy(now.order, 0, row, 0, n);
        for (int p = 0; p < now.people && n < MOST_PEOPLE; p++) {
            if (now.rungOf(p) != NONE) {
                continue;
            }
            row[n] = p;
            if (!holds(now, row, n + 1)) {
                continue;
            }
            int high = highOf(now, row, n + 1);
            if (who == NONE || high > most) {
                who = p;
                most = high;
            }
        }
        return what == 0 ? who : most;
    }

    public int rusts(int window) {
        if (!within(window, MOST_WINDOW)) {
            return BAD;
        }
        trial.becomeLike(now);
        for (int more = 0; more < YEARS_TRIED; more++) {
            trial.rust = Math.min(MOST_RUST, now.rust + more);
            if (highOf(trial, trial.order, trial.saved) < window) {
                return more;
            }
        }
        return NONE;
    }

    public long come(int n, int part) {
        if (!within(n, now.saved) || !within(part, 1)) {
            return NO;
        }
        long above = 1;
        long below = 1;
        for (int i = 0; i < n; i++) {
            above *= says(now, PART_COMES, now.order[i], i);
            below *= 100;
        }
        return lowest(above, below, part);
    }

    public long reach(int window, int part) {
        if (!within(window, MOST_WINDOW) || !within(part, 1)) {
            return NO;
        }
        int sets = 1 << now.saved;
        int reaching = 0;
        for (int set = 0; set < sets; set++) {
            int n = 0;
            for (int i = 0; i < now.saved; i++) {
                if ((set >> i & 1) != 0) {
                    row[n] = now.order[i];
                    n++;
                }
            }
            if (serves(now, row, n, window)) {
                reaching++;
            }
        }
        return lowest(reaching, sets, part);
    }

    public int chain(int window) {
        if (!within(window, MOST_WINDOW)) {
            return BAD;
        }
        trial.becomeLike(now);
        int p = 0;
        // At most 8 are saved, and each starts the count again: 8 times 9 steps and no more.
        for (int fires = 0; fires < MOST_PEOPLE * (MOST_PEOPLE + 1) && p < trial.people; fires++) {
            if (trial.rungOf(p) == NONE && serves(trial, trial.order, trial.saved, window)) {
                trial.saveByFire(p);
                p = 0;
            } else {
                p++;
            }
        }
        return trial.savedBits();
    }

    // ---- told nights

    public int judge(int s) {
        int refusal = nightRefusal(s);
        if (refusal != FINE) {
            return refusal;
        }
        return firstOtherwise(now, sheets[s]);
    }

    public int kinds(int s, int p, int sort) {
        int refusal = nightRefusal(s);
        if (refusal != FINE) {
            return refusal;
        }
        if (!now.has(p)) {
            return NO_SUCH_ONE;
        }
        if (!within(sort, 1)) {
            return UNFIT;
        }
        trial.becomeLike(now);
        int[] values = sort == 0 ? trial.kind : trial.more;
        int last = sort == 0 ? LAST_KIND : MOST_MORE;
        int fitting = 0;
        for (int v = 0; v <= last; v++) {
            values[p] = v;
            if (firstOtherwise(trial, sheets[s]) == NONE) {
                fitting |= 1 << v;
            }
        }
        return fitting;
    }

    public int heights(int s, int p, int what) {
        int refusal = nightRefusal(s);
        if (refusal != FINE) {
            return refusal;
        }
        if (!now.has(p)) {
            return NO_SUCH_ONE;
        }
        if (!within(what, 1)) {
            return UNFIT;
        }
        trial.becomeLike(now);
        int many = 0;
        int least = NONE;
        for (int h = MOST_HEIGHT; h >= 0; h--) {
            trial.height[p] = h;
            if (firstOtherwise(trial, sheets[s]) == NONE) {
                many++;
                least = h;
            }
        }
        return what == 0 ? many : least;
    }

    public int years(int s, int what) {
        int refusal = nightRefusal(s);
        if (refusal != FINE) {
            return refusal;
        }
        if (!within(what, 1)) {
            return UNFIT;
        }
        trial.becomeLike(now);
        int many = 0;
        int least = NONE;
        for (int rust = YEARS_TRIED - 1; rust >= 0; rust--) {
            trial.rust = rust;
            if (firstOtherwise(trial, sheets[s]) == NONE) {
                many++;
                least = rust;
            }
        }
        return what == 0 ? many : least;
    }

    public int whose(int s, int what) {
        int refusal = nightRefusal(s);
        if (refusal != FINE) {
            return refusal;
        }
        if (!within(what, 1)) {
            return UNFIT;
        }
        countWays(sheets[s]);
        return what == 0 ? ways[0] : firstDigits(sheets[s]);
    }

    public int laws(int s) {
        int refusal = nightRefusal(s);
        if (refusal != FINE) {
            return refusal;
        }
        trial.becomeLike(now);
        int fitting = 0;
        for (int t = 0; t < textCount; t++) {
            trial.law = t;
            if (firstOtherwise(trial, sheets[s]) == NONE) {
                fitting |= 1 << t;
            }
        }
        return fitting;
    }

    public int film(int s) {
        if (!within(s, MOST_SHEETS - 1)) {
            return BAD;
        }
        Sheet sheet = sheets[s];
        sheet.becomeZeros(INTS, now.saved);
        int high = 0;
        for (int i = 0; i < now.saved; i++) {
            high += risesOf(now, now.order[i], i);
            sheet.write(i, high);
        }
        return now.saved;
    }

    // ---- fires by lots

    public int drawn(int seed, int what) {
        if (!within(seed, MOST_SEED) || !within(what, 2)) {
            return BAD;
        }
        int n = draw(seed);
        return what == 2 ? n : measure(now, row, n, what);
    }

    public long odds(int seed, int seeds, int window, int part) {
        boolean counts = within(seed, MOST_SEED) && seeds >= 1 && seeds <= MOST_SEEDS;
        if (!counts || !within(window, MOST_WINDOW) || !within(part, 1)) {
            return NO;
        }
        int reaching = 0;
        for (int i = 0; i < seeds; i++) {
            int n = draw(seed + i);
            if (serves(now, row, n, window)) {
                reaching++;
            }
        }
        return lowest(reaching, seeds, part);
    }

    public int image() {
        kept.becomeLike(now);
        hasImage = true;
        return now.people;
    }

    public int back() {
        if (!hasImage) {
            return STATE;
        }
        now.becomeLike(kept);
        return now.people;
    }

    // ---- the host

    public int sheet(int s, int sort, int n) {
        boolean missing = sort == MISSING;
        if (!within(s, MOST_SHEETS - 1) || !missing && !within(sort, INTS) || !missing && n > MOST_NUMBERS) {
            return BAD;
        }
        if (!missing && n < 0) {
            return SIZE_BELOW_0;
        }
        sheets[s].becomeZeros(sort, missing ? 0 : n);
        return 1;
    }

    public int cell(int s, int i, int v) {
        int refusal = sheetRefusal(s);
        if (refusal != FINE) {
            return refusal;
        }
        Sheet sheet = sheets[s];
        if (!sheet.has(i)) {
            return PLACE_OUTSIDE;
        }
        sheet.write(i, v);
        return 1;
    }

    public int copy(int s, int i, int other, int j, int n) {
        if (!within(s, MOST_SHEETS - 1) || !within(other, MOST_SHEETS - 1)) {
            return BAD;
        }
        Sheet from = sheets[s];
        Sheet to = sheets[other];
        if (from.sort == MISSING || to.sort == MISSING) {
            return NOTHING_THERE;
        }
        if (from.sort != to.sort) {
            return OTHER_SORT;
        }
        if (!from.hasAll(i, n) || !to.hasAll(j, n)) {
            return PLACE_OUTSIDE;
        }
        System.arraycopy(from.numbers, i, to.numbers, j, n);
        return n;
    }

    public int peopleBy(int s, int sort, int from, int n) {
        if (!within(s, MOST_SHEETS - 1) || !within(sort, INTS) || !within(n, MOST_PEOPLE)) {
            return BAD;
        }
        Sheet sheet = sheets[s];
        if (sheet.sort == MISSING) {
            return NOTHING_THERE;
        }
        if (sheet.sort != sort) {
            return OTHER_SORT;
        }
        int came = 0;
        for (int k = 0; k < n; k++) {
            int place = from + 2 * k;
            if (!sheet.hasAll(place, 2)) {
                return PLACE_OUTSIDE;
            }
            if (join(sheet.numbers[place], sheet.numbers[place + 1]) >= 0) {
                came++;
            }
        }
        return came;
    }

    public int taken(int i, int kind) {
        if (!within(kind, SAVED_FLAG)) {
            return BAD;
        }
        if (!within(i, 2 * MOST_PEOPLE - 1)) {
            return PLACE_OUTSIDE;
        }
        int p = i % MOST_PEOPLE;
        if (!now.has(p)) {
            return NOTHING_THERE;
        }
        if (i >= MOST_PEOPLE) {
            return kind != SAVED_FLAG ? OTHER_SORT : now.rungOf(p) != NONE ? 1 : 0;
        }
        return kind != SAVED_FLAG && isA(now.kind[p], kind) ? p : OTHER_SORT;
    }

    // ---- checks

    private static boolean within(int v, int most) {
        return v >= 0 && v <= most;
    }

    private int sheetRefusal(int s) {
        if (!within(s, MOST_SHEETS - 1)) {
            return BAD;
        }
        return sheets[s].sort == MISSING ? NOTHING_THERE : FINE;
    }

    private int nightRefusal(int s) {
        int refusal = sheetRefusal(s);
        if (refusal != FINE) {
            return refusal;
        }
        return sheets[s].size > now.saved ? BAD : FINE;
    }

    // ---- people

    private int join(int kindMore, int heightStrong) {
        if (!within(kindMore, 10 * LAST_KIND + MOST_MORE) || !within(heightStrong, 1000 * MOST_HEIGHT + MOST_STRONG)) {
            return BAD;
        }
        if (now.people >= MOST_PEOPLE) {
            return FULL;
        }
        int p = now.people;
        now.kind[p] = kindMore / 10;
        now.more[p] = kindMore % 10;
        now.height[p] = heightStrong / 1000;
        now.strong[p] = heightStrong % 1000;
        now.feuds[p] = 0;
        now.people++;
        return p;
    }

    private static int kindAbove(int kind) {
        return kind == CARTWRIGHT ? FARMER : kind == CHILD ? LADY : PERSON;
    }

    private static boolean isA(int kind, int asked) {
        return asked == PERSON || asked == kind || asked == kindAbove(kind);
    }

    private int says(Crew crew, int part, int p, int rung) {
        int most = part == PART_TALL ? 99 : part == PART_BEARS ? 999 : 100;
        int value = texts[crew.law].value(part, crew, p, rung);
        return Math.max(0, Math.min(most, value));
    }

    private int risesOf(Crew crew, int p, int rung) {
        int tall = says(crew, PART_TALL, p, rung);
        switch (crew.kind[p]) {
            case LADY: return tall + crew.more[p];
            case CHILD: return tall / 2;
            case SLEEPER: return crew.rust > crew.more[p] ? Math.max(0, tall - 3) : tall;
            default: return tall;
        }
    }

    private int bearsOf(Crew crew, int p, int rung) {
        int bears = says(crew, PART_BEARS, p, rung);
        switch (crew.kind[p]) {
            case FARMER: return bears + 10 * crew.more[p];
            case CARTWRIGHT: return 2 * (bears + 10 * crew.more[p]);
            case LADY: case CHILD: return bears / 2;
            default: return bears;
        }
    }

    private static int weighsOf(Crew crew, int p) {
        int half = crew.height[p] / 2;
        switch (crew.kind[p]) {
            case CARTWRIGHT: return half + 9;
            case CHILD: return half / 2;
            case SLEEPER: return crew.height[p];
            default: return half;
        }
    }

    // ---- ladders

    private int highOf(Crew crew, int[] who, int n) {
        int high = 0;
        for (int rung = 0; rung < n; rung++) {
            high += risesOf(crew, who[rung], rung);
        }
        return high;
    }

    private int firstWeak(Crew crew, int[] who, int n) {
        int weak = NONE;
        int above = 0;
        for (int rung = n - 1; rung >= 0; rung--) {
            int p = who[rung];
            if (bearsOf(crew, p, rung) < above || rung > 0 && crew.quarrel(p, who[rung - 1])) {
                weak = rung;
            }
            above += weighsOf(crew, p);
        }
        return weak;
    }

    private static int weightOnLowest(Crew crew, int[] who, int n) {
        int weight = 0;
        for (int rung = 1; rung < n; rung++) {
            weight += weighsOf(crew, who[rung]);
        }
        return weight;
    }

    private int measure(Crew crew, int[] who, int n, int what) {
        switch (what) {
            case 0: return highOf(crew, who, n);
            case 1: return firstWeak(crew, who, n);
            default: return weightOnLowest(crew, who, n);
        }
    }

    private boolean holds(Crew crew, int[] who, int n) {
        return firstWeak(crew, who, n) == NONE;
    }

    private boolean serves(Crew crew, int[] who, int n, int window) {
        return highOf(crew, who, n) >= window && holds(crew, who, n);
    }

    /** The sheet's people into the row: how many; NONE: they are no ladder. */
    private int takeRow(Sheet sheet) {
        if (sheet.size > MOST_PEOPLE) {
            return NONE;
        }
        int standing = 0;
        for (int i = 0; i < sheet.size; i++) {
            int p = sheet.numbers[i];
            if (!now.has(p) || (standing >> p & 1) != 0) {
                return NONE;
            }
            standing |= 1 << p;
            row[i] = p;
        }
        return sheet.size;
    }

    /** Those who come into the row: how many. */
    private int draw(int seed) {
        long lot = seed + 1L;
        int n = 0;
        for (int i = 0; i < now.saved; i++) {
            int p = now.order[i];
            lot = lot * LOT_FACTOR % LOT_MODULUS;
            if (lot % 100 < says(now, PART_COMES, p, i)) {
                row[n] = p;
                n++;
            }
        }
        return n;
    }

    private void measureAll() {
        for (int p = 0; p < now.people; p++) {
            search.weighs[p] = weighsOf(now, p);
            search.feuds[p] = now.feuds[p];
            for (int rung = 0; rung < MOST_SEARCHED; rung++) {
                int place = p * MOST_SEARCHED + rung;
                search.rises[place] = risesOf(now, p, rung);
                search.bears[place] = bearsOf(now, p, rung);
            }
        }
    }

    // ---- told nights

    private int firstOtherwise(Crew crew, Sheet sheet) {
        int high = 0;
        for (int i = 0; i < sheet.size && i < crew.saved; i++) {
            high += risesOf(crew, crew.order[i], i);
            if (high != sheet.numbers[i]) {
                return i;
            }
        }
        return NONE;
    }

    /** Whether one rises at a rung as much as is told, if all below rise as told. */
    private boolean fits(Sheet sheet, int p, int rung) {
        int before = rung == 0 ? 0 : sheet.numbers[rung - 1];
        return before + risesOf(now, p, rung) == sheet.numbers[rung];
    }

    /** Into the ways: by how many rows those of a set, being lowest, may go on till all is told. */
    private void countWays(Sheet sheet) {
        int all = now.savedBits();
        for (int set = ways.length - 1; set >= 0; set--) {
            int rung = Integer.bitCount(set);
            int sum = rung == sheet.size ? 1 : 0;
            for (int p = 0; p < MOST_PEOPLE && rung < sheet.size; p++) {
                int larger = set | 1 << p;
                if ((all >> p & 1) != 0 && larger != set && ways[larger] > 0 && fits(sheet, p, rung)) {
                    sum += ways[larger];
                }
            }
            ways[set] = sum;
        }
    }

    private int firstDigits(Sheet sheet) {
        int digits = 0;
        int set = 0;
        for (int rung = 0; rung < sheet.size; rung++) {
            int p = firstFitting(sheet, set, rung);
            if (p == NONE) {
                return 0;
            }
            set |= 1 << p;
            digits = digits * 10 + p + 1;
        }
        return digits;
    }

    private int firstFitting(Sheet sheet, int set, int rung) {
        for (int p = 0; p < now.people; p++) {
            int larger = set | 1 << p;
            boolean free = now.rungOf(p) != NONE && larger != set;
            if (free && ways[larger] > 0 && fits(sheet, p, rung)) {
                return p;
            }
        }
        return NONE;
    }

    // ---- fractions

    private static long lowest(long above, long below, int part) {
        long common = below;
        long rest = above;
        // Two rounds halve what is left at least: 200 are more than a long can need.
        for (int i = 0; i < 200 && rest != 0; i++) {
            long left = common % rest;
            common = rest;
            rest = left;
        }
        if (common == 0) {
            return NO;
        }
        return (part == 0 ? above : below) / common;
    }

    /** All that an image keeps, and what of people never changes. */
    private static final class Crew {
        private final int[] kind = new int[MOST_PEOPLE];
        private final int[] more = new int[MOST_PEOPLE];
        private final int[] height = new int[MOST_PEOPLE];
        private final int[] strong = new int[MOST_PEOPLE];
        private final int[] feuds = new int[MOST_PEOPLE];
        private final int[] order = new int[MOST_PEOPLE];
        private int people = 0;
        private int saved = 0;
        private int rust = 0;
        private int law = 0;

        private void becomeLike(Crew other) {
            System.arraycopy(other.kind, 0, kind, 0, MOST_PEOPLE);
            System.arraycopy(other.more, 0, more, 0, MOST_PEOPLE);
            System.arraycopy(other.height, 0, height, 0, MOST_PEOPLE);
            System.arraycopy(other.strong, 0, strong, 0, MOST_PEOPLE);
            System.arraycopy(other.feuds, 0, feuds, 0, MOST_PEOPLE);
            System.arraycopy(other.order, 0, order, 0, MOST_PEOPLE);
            people = other.people;
            saved = other.saved;
            rust = other.rust;
            law = other.law;
        }

        private boolean has(int p) {
            return p >= 0 && p < people;
        }

        private boolean quarrel(int a, int b) {
            return (feuds[a] >> b & 1) != 0;
        }

        private void setQuarrel(int a, int b, int is) {
            feuds[a] = feuds[a] & ~(1 << b) | is << b;
        }

        private int rungOf(int p) {
            for (int i = 0; i < saved; i++) {
                if (order[i] == p) {
                    return i;
                }
            }
            return NONE;
        }

        private int savedBits() {
            int bits = 0;
            for (int i = 0; i < saved; i++) {
                bits |= 1 << order[i];
            }
            return bits;
        }

        private void save(int p) {
            if (saved < MOST_PEOPLE) {
                order[saved] = p;
                saved++;
            }
        }

        private void saveByFire(int p) {
            save(p);
            rust = 0;
        }
    }

    private static final class Sheet {
        private final int[] numbers = new int[MOST_NUMBERS];
        private int sort = MISSING;
        private int size = 0;

        private void becomeZeros(int newSort, int newSize) {
            sort = newSort;
            size = newSize;
            Arrays.fill(numbers, 0);
        }

        private boolean has(int i) {
            return i >= 0 && i < size;
        }

        private boolean hasAll(int from, int n) {
            return from >= 0 && n >= 0 && n <= size && from <= size - n;
        }

        private void write(int i, int v) {
            if (has(i)) {
                numbers[i] = sort == 0 ? (byte) v : sort == 1 ? (short) v : v;
            }
        }
    }

    /** Looks through the ladders of some people, by what each does at each rung. */
    private static final class Search {
        // More than all together can weigh.
        private static final int GROUND_BEARS = 1000000;
        private final int[] rises = new int[MOST_PEOPLE * MOST_SEARCHED];
        private final int[] bears = new int[MOST_PEOPLE * MOST_SEARCHED];
        private final int[] weighs = new int[MOST_PEOPLE];
        private final int[] feuds = new int[MOST_PEOPLE];
        private int allowed = 0;
        private int limit = 0;
        private int bestHigh = 0;
        private int bestDigits = NONE;

        private void run(int most, int people) {
            limit = Math.min(most, MOST_SEARCHED);
            allowed = people;
            bestHigh = 0;
            bestDigits = NONE;
            climb(this, 0, 0, 0, 0, GROUND_BEARS);
        }

        /** A ladder that doesn't hold never does with more on top: nothing goes on from it. */
        private static void climb(Search s, int rung, int used, int high, int digits, int spare) {
            if (rung >= s.limit) {
                return;
            }
            // The last digit tells who is right below; of no digits it is NONE.
            int below = digits % 10 - 1;
            int free = s.allowed & ~used;
            for (int p = 0; p < MOST_PEOPLE; p++) {
                boolean feud = below != NONE && (s.feuds[p] >> below & 1) != 0;
                if ((free >> p & 1) == 0 || feud || spare < s.weighs[p]) {
                    continue;
                }
                int place = p * MOST_SEARCHED + rung;
                int higher = high + s.rises[place];
                int spelled = digits * 10 + p + 1;
                if (higher > s.bestHigh) {
                    s.bestHigh = higher;
                    s.bestDigits = spelled;
                }
                climb(s, rung + 1, used | 1 << p, higher, spelled, Math.min(spare - s.weighs[p], s.bears[place]));
            }
        }
    }

    /** What a word, a sign, a number is to the reader; the code of a law is of the same. */
    private static final class Token {
        private static final int END = 1, STRANGE = 2, NUMBER = 3;
        private static final int TALL = 4, BEARS = 5, COMES = 6, OR = 7, AND = 8, NOT = 9;
        private static final int HEIGHT = 10, STRONG = 11, RUST = 12, RUNG = 13, SAVED = 14, MORE = 15;
        private static final int FIRST_WORD = TALL, LAST_WORD = MORE, FIRST_NAME = HEIGHT;
        private static final int OPEN = '(', CLOSE = ')', STOP = ';', PLUS = '+', MINUS = '-';
        private static final int TIMES = '*', LESS = '<', EQUAL = '=', NEGATE = '~';

        private static String wordOf(int token) {
            switch (token) {
                case TALL: return "tall";
                case BEARS: return "bears";
                case COMES: return "comes";
                case OR: return "or";
                case AND: return "and";
                case NOT: return "not";
                case HEIGHT: return "height";
                case STRONG: return "strong";
                case RUST: return "rust";
                case RUNG: return "rung";
                case SAVED: return "saved";
                case MORE: return "more";
                default: return "";
            }
        }

        private static boolean isSign(int c) {
            return c == OPEN || c == CLOSE || c == STOP || c == PLUS || c == MINUS || c == TIMES || c == LESS || c == EQUAL;
        }

        private static boolean isName(int token) {
            return token >= FIRST_NAME && token <= LAST_WORD;
        }
    }

    /** A text that has been read: numbers as they are, all else as a token below 0, what is joined ahead of how. */
    private static final class Law {
        // 6 levels of brackets, at each at most 5 numbers wait for another.
        private static final int MOST_WAITING = 32;
        private final int[] code = new int[MOST_BYTES];
        private final int[] ends = new int[PART_COMES + 1];
        private final int[] stack = new int[MOST_WAITING];
        private int size = 0;

        private void clear() {
            size = 0;
        }

        private void append(int item) {
            if (size < MOST_BYTES) {
                code[size] = item;
                size++;
            }
        }

        private void endPart(int part) {
            ends[part] = size;
        }

        private int value(int part, Crew crew, int p, int rung) {
            int top = 0;
            for (int i = part == 0 ? 0 : ends[part - 1]; i < ends[part]; i++) {
                int token = -code[i];
                if (token <= 0 || Token.isName(token)) {
                    if (top >= MOST_WAITING) {
                        return 0;
                    }
                    stack[top] = token <= 0 ? code[i] : named(token, crew, p, rung);
                    top++;
                } else if (token == Token.NOT || token == Token.NEGATE) {
                    if (top < 1) {
                        return 0;
                    }
                    int v = stack[top - 1];
                    stack[top - 1] = token == Token.NEGATE ? -v : v == 0 ? 1 : 0;
                } else {
                    if (top < 2) {
                        return 0;
                    }
                    top--;
                    stack[top - 1] = joined(token, stack[top - 1], stack[top]);
                }
            }
            return top < 1 ? 0 : stack[top - 1];
        }

        private static int named(int token, Crew crew, int p, int rung) {
            switch (token) {
                case Token.HEIGHT: return crew.height[p];
                case Token.STRONG: return crew.strong[p];
                case Token.RUST: return crew.rust;
                case Token.RUNG: return rung;
                case Token.SAVED: return crew.saved;
                default: return crew.more[p];
            }
        }

        private static int joined(int token, int a, int b) {
            switch (token) {
                case Token.TIMES: return a * b;
                case Token.PLUS: return a + b;
                case Token.MINUS: return a - b;
                case Token.LESS: return a < b ? 1 : 0;
                case Token.EQUAL: return a == b ? 1 : 0;
                case Token.AND: return a != 0 && b != 0 ? 1 : 0;
                default: return a != 0 || b != 0 ? 1 : 0;
            }
        }
    }

    /** The tape, and how it is read; 'open' counts the brackets, nots and minuses that have not ended. */
    private static final class Reader {
        private static final int MOST_OPEN = 5, MOST_DIGITS = 4;
        private final int[] tape = new int[MOST_BYTES];
        private int size = 0;
        private int at = 0;
        private int token = Token.END;
        private int place = 0;
        private int number = 0;
        private int fault = NONE;
        private Law law;

        private Reader(Law first) {
            law = first;
        }

        private void hear(int b) {
            if (size < MOST_BYTES) {
                tape[size] = b;
                size++;
            }
        }

        /** The place of the fault; NONE: the tape is a text, which the law is now. */
        private int read(Law into) {
            law = into;
            law.clear();
            at = 0;
            fault = NONE;
            advance();
            for (int part = PART_TALL; part <= PART_COMES; part++) {
                expect(Token.TALL + part);
                either(0);
                expect(Token.STOP);
                law.endPart(part);
            }
            expect(Token.END);
            size = 0;
            return fault;
        }

        private void either(int open) {
            both(open);
            for (int i = 0; i < MOST_BYTES && token == Token.OR; i++) {
                advance();
                both(open);
                law.append(-Token.OR);
            }
        }

        private void both(int open) {
            perhapsNot(open);
            for (int i = 0; i < MOST_BYTES && token == Token.AND; i++) {
                advance();
                perhapsNot(open);
                law.append(-Token.AND);
            }
        }

        private void perhapsNot(int open) {
            if (token == Token.NOT) {
                negation(open);
            } else {
                comparison(open);
            }
        }

        private void negation(int open) {
            if (mayOpen(open)) {
                advance();
                perhapsNot(open + 1);
                law.append(-Token.NOT);
            }
        }

        private void comparison(int open) {
            sum(open);
            if (token == Token.LESS || token == Token.EQUAL) {
                int how = token;
                advance();
                sum(open);
                law.append(-how);
            }
        }

        private void sum(int open) {
            term(open);
            for (int i = 0; i < MOST_BYTES && (token == Token.PLUS || token == Token.MINUS); i++) {
                int how = token;
                advance();
                term(open);
                law.append(-how);
            }
        }

        private void term(int open) {
            one(open);
            for (int i = 0; i < MOST_BYTES && token == Token.TIMES; i++) {
                advance();
                one(open);
                law.append(-Token.TIMES);
            }
        }

        private void one(int open) {
            if (token == Token.NUMBER) {
                law.append(number);
                advance();
            } else if (Token.isName(token)) {
                law.append(-token);
                advance();
            } else if (token == Token.MINUS) {
                opposite(open);
            } else if (token == Token.OPEN) {
                bracket(open);
            } else {
                fail();
            }
        }

        private void opposite(int open) {
            if (mayOpen(open)) {
                advance();
                one(open + 1);
                law.append(-Token.NEGATE);
            }
        }

        private void bracket(int open) {
            if (mayOpen(open)) {
                advance();
                either(open + 1);
                expect(Token.CLOSE);
            }
        }

        private boolean mayOpen(int open) {
            if (open >= MOST_OPEN) {
                fail();
            }
            return open < MOST_OPEN;
        }

        private void expect(int wanted) {
            if (token != wanted) {
                fail();
            } else if (wanted != Token.END) {
                advance();
            }
        }

        /** A strange token stands nowhere: after the first fault no loop goes on. */
        private void fail() {
            if (fault == NONE) {
                fault = place;
            }
            token = Token.STRANGE;
        }

        private void advance() {
            if (fault != NONE) {
                return;
            }
            while (at < size && (tape[at] == ' ' || tape[at] == '\n')) {
                at++;
            }
            place = at;
            if (at >= size) {
                token = Token.END;
            } else if (isDigit(tape[at])) {
                takeNumber();
            } else if (isLetter(tape[at])) {
                takeWord();
            } else {
                token = Token.isSign(tape[at]) ? tape[at] : Token.STRANGE;
                at++;
            }
        }

        private void takeNumber() {
            number = 0;
            while (at < size && isDigit(tape[at])) {
                // Too long a number is refused below: only its first digits are kept, lest it wraps.
                number = at - place < MOST_DIGITS ? number * 10 + tape[at] - '0' : number;
                at++;
            }
            token = at - place > MOST_DIGITS ? Token.STRANGE : Token.NUMBER;
        }

        private void takeWord() {
            while (at < size && isLetter(tape[at])) {
                at++;
            }
            token = Token.STRANGE;
            for (int t = Token.FIRST_WORD; t <= Token.LAST_WORD; t++) {
                if (isWord(Token.wordOf(t))) {
                    token = t;
                }
            }
        }

        private boolean isWord(String word) {
            if (word.length() != at - place) {
                return false;
            }
            for (int i = 0; i < word.length(); i++) {
                if (tape[place + i] != word.charAt(i)) {
                    return false;
                }
            }
            return true;
        }

        private static boolean isDigit(int c) {
            return c >= '0' && c <= '9';
        }

        private static boolean isLetter(int c) {
            return c >= 'a' && c <= 'z';
        }
    }
}

/** Stones that go to buildings at a road, and buildings that take and cast out. See README.md. */
public final class StonesChoose {
    public static final int NONE = -1, BAD = -2, STATE = -3, FULL = -4;
    public static final long NO = -4611686018427387904L;

    private static final int MISSING = -11, OUTSIDE = -12, UNLIKE = -13, BELOW_ZERO = -14;
    private static final int NO_SUCH = -5, NOT_AS_TOLD = -7;
    private static final int NO_SUCH_ASKED = -1000, NO_SUCH_LOVE = -5000, NO_LOVE_WHAT = -7000, NO_WHAT = -100000;

    private static final int BUILDINGS = 5, STONES = 5, TEXTS = 6, TAPE = 160, SHEETS = 4, CELLS = 40;
    private static final int MOST = 99, PLACES = 100, WEIGHTS = 100, LAST_YEAR = 999;
    private static final int RUN_YEARS = 40, WHEN_YEARS = 60, TOLD_YEARS = 20;
    private static final int SEEDS = 100000, MOST_SEEDS = 40, WEATHER_YEARS = 8;
    private static final long LOT_FACTOR = 48271L, LOT_MODULUS = 2147483647L;
    private static final int WAYS = 7776;

    private static final int STONE = 0, LINTEL = 1, SLAB = 2, STEP = 3, CONVERT = 4, WHITE = 5;
    private static final int KINDS = 6, MORES = 10, A_BUILDING = 6;

    /**
     * No building, and no stone, as the rows have them: a place more in each, that holds 0. So what may be none is
     * an index, too; by -1 Java 17's compiler has read ahead of the test that kept it out, and fallen (HotTest).
     */
    private static final int NOWHERE = BUILDINGS, NOBODY = STONES;

    private static final int LIKES = 0, WANTS = 1, GOES = 2, PARTS = 3;
    private static final int FAR = 0, VAIN = 1, BUILT = 2, WEIGHT = 3, YEAR = 4, MORE = 5, NAMES = 6;
    private static final String FIRST_LAW = "likes 99 - far ; wants weight ; goes 9 ;";

    private final Reader reader = new Reader();
    private final Text[] texts = new Text[TEXTS];
    private int textsMade;
    private final World now;
    private final World thought;
    private final World kept;
    private boolean isKept;
    private final Sheet[] sheets = new Sheet[SHEETS];

    public StonesChoose() {
        for (int i = 0; i < FIRST_LAW.length(); i++) {
            reader.take(FIRST_LAW.charAt(i));
        }
        reader.read();
        Text law = reader.made(0);
        reader.clear();
        texts[0] = law;
        textsMade = 1;
        now = new World(law);
        thought = new World(law);
        kept = new World(law);
        for (int s = 0; s < SHEETS; s++) {
            sheets[s] = new Sheet();
        }
    }

    // ---- buildings, the law, stones

    public int count(int what) {
        switch (what) {
            case 0: return now.choice.stones;
            case 1: return now.yearNow;
            case 2: return now.choice.inNone();
            case 3: return textsMade;
            case 4: return now.law.number;
            case 5: return reader.size;
            default: return BAD;
        }
    }

    public int dawn(int v) {
        if (v < 0 || v > LAST_YEAR) {
            return BAD;
        }
        int was = now.yearNow;
        now.yearNow = v;
        return was;
    }

    public int build(int b, int what, int v) {
        if (!isBuilding(b)) {
            return NO_SUCH;
        }
        if (what < 0 || what > 3 || v < 0 || v > MOST) {
            return NOT_AS_TOLD;
        }
        if (what == 1 && (v > STONES || v < now.choice.housed(b))) {
            return NOT_AS_TOLD;
        }
        int was = site(b, what);
        switch (what) {
            case 0: now.move(b, v); break;
            case 1: now.choice.room[b] = v; break;
            case 2: now.vain[b] = v; break;
            default: now.built[b] = v; break;
        }
        return was;
    }

    public int site(int b, int what) {
        if (!isBuilding(b)) {
            return NO_SUCH;
        }
        switch (what) {
            case 0: return now.place[b];
            case 1: return now.choice.room[b];
            case 2: return now.vain[b];
            case 3: return now.built[b];
            case 4: return now.choice.housedBits(b);
            default: return NOT_AS_TOLD;
        }
    }

    public int feed(int n, int a, int b, int c, int d, int e) {
        if (n < 1 || n > 5 || !isByte(a) || !isByte(b) || !isByte(c) || !isByte(d) || !isByte(e)) {
            return BAD;
        }
        if (n > TAPE - reader.size) {
            return FULL;
        }
        reader.take(a);
        if (n > 1) {
            reader.take(b);
        }
        if (n > 2) {
            reader.take(c);
        }
        if (n > 3) {
            reader.take(d);
        }
        if (n > 4) {
            reader.take(e);
        }
        return reader.size;
    }

    public int text() {
        if (textsMade >= TEXTS) {
            return FULL;
        }
        int fault = reader.read();
        int answer = -100 - fault;
        if (fault < 0) {
            answer = textsMade;
            texts[textsMade] = reader.made(textsMade);
            textsMade++;
        }
        reader.clear();
        return answer;
    }

    public int force(int t) {
        if (t < 0 || t >= textsMade) {
            return BAD;
        }
        int was = now.law.number;
        now.law = texts[t];
        return was;
    }

    public int asks(int part, int p, int b) {
        if (part < 0 || part >= PARTS || !isStone(p) || b != NONE && !isBuilding(b)) {
            return NO_SUCH_ASKED;
        }
        return now.says(part, p, b == NONE ? NOWHERE : b);
    }

    public int stone(int kindMore, int where, int heavy) {
        if (kindMore < 0 || kindMore >= KINDS * MORES) {
            return BAD;
        }
        if (where < 0 || where >= PLACES || heavy < 0 || heavy >= WEIGHTS) {
            return BAD;
        }
        return now.add(kindMore, where, heavy);
    }

    public int put(int p, int what, int v) {
        if (!isStone(p)) {
            return NO_SUCH;
        }
        if (what < 0 || what > 1 || v < 0 || v > MOST) {
            return NOT_AS_TOLD;
        }
        if (what == 0) {
            int was = now.at[p];
            now.lay(p, v);
            return was;
        }
        int was = now.weight[p];
        now.weight[p] = v;
        return was;
    }

    public int told(int p, int what) {
        if (!isStone(p)) {
            return NO_SUCH;
        }
        switch (what) {
            case 0: return now.at[p];
            case 1: return now.weight[p];
            case 2: return orNone(now.choice.in[p]);
            case 3: return now.kind[p];
            case 4: return now.more[p];
            case 5: return orNone(now.wish(p));
            case 6: return now.goes(p);
            default: return NOT_AS_TOLD;
        }
    }

    public int love(int p, int b, int what) {
        if (!isStone(p) || !isBuilding(b)) {
            return NO_SUCH_LOVE;
        }
        switch (what) {
            case 0: return now.likes(p, b);
            case 1: return now.wants(p, b);
            default: return NO_LOVE_WHAT;
        }
    }

    // ---- years

    public int year() {
        if (now.yearNow >= LAST_YEAR) {
            return STATE;
        }
        return now.passYear();
    }

    public int run(int n, int what) {
        if (n < 0 || n > RUN_YEARS) {
            return BAD;
        }
        boolean ofAll = what == 0 || what == 1;
        if (!ofAll && !isStone(what - 10)) {
            return BAD;
        }
        thought.copyFrom(now);
        for (int i = 0; i < n; i++) {
            thought.passYear();
        }
        if (ofAll) {
            return what == 0 ? thought.choice.digits() : thought.choice.inNone();
        }
        return thought.at[what - 10];
    }

    public int when(int p, int what) {
        if (!isStone(p)) {
            return NO_SUCH;
        }
        if (what != NONE && !isBuilding(what)) {
            return NOT_AS_TOLD;
        }
        thought.copyFrom(now);
        return yearsTillIn(p, what, WHEN_YEARS);
    }

    // ---- peace

    public int peace(int what) {
        if (what < 0 || what > 2) {
            return NO_WHAT;
        }
        now.tellAll();
        switch (what) {
            case 0: return now.choice.complaint();
            case 1: return now.choice.liked();
            default: return now.choice.wanted();
        }
    }

    public int court(int what) {
        if (what < 0 || what > 2) {
            return NO_WHAT;
        }
        thought.copyFrom(now);
        thought.tellAll();
        thought.choice.askInTurn();
        switch (what) {
            case 0: return thought.choice.digits();
            case 1: return thought.choice.liked();
            default: return thought.choice.wanted();
        }
    }

    public int all(int what) {
        if (what < 0 || what > 4) {
            return NO_WHAT;
        }
        thought.copyFrom(now);
        thought.tellAll();
        Choice way = thought.choice;
        way.emptyAll();
        boolean inPeace = what < 3;
        int ways = 0, best = NONE, most = 0;
        boolean more = true;
        for (int i = 0; more && i < WAYS; i++) {
            if (way.fits() && (!inPeace || way.complaint() < 0)) {
                int liked = way.liked();
                if (ways == 0 || liked > most) {
                    best = way.digits();
                    most = liked;
                }
                ways++;
            }
            more = way.nextWay();
        }
        if (what == 0) {
            return ways;
        }
        return what == 1 || what == 3 ? best : most;
    }

    // ---- what is best

    public int annex(int what) {
        if (what < 0 || what > 1) {
            return NO_WHAT;
        }
        thought.copyFrom(now);
        thought.tellAll();
        int best = NONE, most = 0;
        for (int b = 0; b < BUILDINGS; b++) {
            thought.choice.room[b]++;
            thought.choice.askInTurn();
            thought.choice.room[b]--;
            int liked = thought.choice.liked();
            if (best == NONE || liked > most) {
                best = b;
                most = liked;
            }
        }
        return what == 0 ? best : most;
    }

    public int cart(int p, int what) {
        if (!isStone(p)) {
            return NO_SUCH;
        }
        if (what < 0 || what > 1) {
            return NOT_AS_TOLD;
        }
        int best = NONE, fewest = WHEN_YEARS + 1;
        for (int place = 0; place < PLACES; place++) {
            thought.copyFrom(now);
            thought.lay(p, place);
            int years = yearsTillIn(p, NONE, fewest - 1);
            if (years >= 0) {
                best = place;
                fewest = years;
            }
        }
        if (best == NONE) {
            return NONE;
        }
        return what == 0 ? best : fewest;
    }

    public long share(int part) {
        if (part < 0 || part > 1) {
            return NO;
        }
        int housed = 0, whole = 0;
        for (int p = 0; p < now.choice.stones; p++) {
            whole += now.weight[p];
            housed += now.choice.in[p] == NOWHERE ? 0 : now.weight[p];
        }
        return inLowestTerms(housed, whole, part);
    }

    // ---- told years

    public int judge(int s, int p) {
        int refusal = refusalOfTold(s);
        if (refusal != 0) {
            return refusal;
        }
        if (!isStone(p)) {
            return NO_SUCH;
        }
        thought.copyFrom(now);
        return firstOtherwise(s, p);
    }

    public int kinds(int s, int p, int sort) {
        int refusal = refusalOfTold(s);
        if (refusal != 0) {
            return refusal;
        }
        if (!isStone(p)) {
            return NO_SUCH;
        }
        if (sort < 0 || sort > 1) {
            return NOT_AS_TOLD;
        }
        int bits = 0;
        int sorts = sort == 0 ? KINDS : MORES;
        for (int k = 0; k < sorts; k++) {
            thought.copyFrom(now);
            if (sort == 0) {
                thought.kind[p] = k;
            } else {
                thought.more[p] = k;
            }
            if (firstOtherwise(s, p) == NONE) {
                bits |= 1 << k;
            }
        }
        return bits;
    }

    public int states(int s, int p, int sort, int what) {
        int refusal = refusalOfTold(s);
        if (refusal != 0) {
            return refusal;
        }
        if (!isStone(p)) {
            return NO_SUCH;
        }
        if (sort < 0 || sort > 1 || what < 0 || what > 1) {
            return NOT_AS_TOLD;
        }
        int many = 0, least = NONE;
        for (int v = 0; v <= MOST; v++) {
            thought.copyFrom(now);
            if (sort == 0) {
                thought.at[p] = v;
            } else {
                thought.weight[p] = v;
            }
            if (firstOtherwise(s, p) == NONE) {
                many++;
                least = least == NONE ? v : least;
            }
        }
        return what == 0 ? many : least;
    }

    public int whose(int s) {
        int refusal = refusalOfTold(s);
        if (refusal != 0) {
            return refusal;
        }
        int bits = 0;
        for (int p = 0; p < now.choice.stones; p++) {
            thought.copyFrom(now);
            if (firstOtherwise(s, p) == NONE) {
                bits |= 1 << p;
            }
        }
        return bits;
    }

    public int laws(int s, int p) {
        int refusal = refusalOfTold(s);
        if (refusal != 0) {
            return refusal;
        }
        if (!isStone(p)) {
            return NO_SUCH;
        }
        int bits = 0;
        for (int t = 0; t < textsMade; t++) {
            thought.copyFrom(now);
            thought.law = texts[t];
            if (firstOtherwise(s, p) == NONE) {
                bits |= 1 << t;
            }
        }
        return bits;
    }

    public int film(int s, int p, int n) {
        if (!isSheet(s)) {
            return BAD;
        }
        if (!isStone(p)) {
            return NO_SUCH;
        }
        if (n < 0 || n > TOLD_YEARS) {
            return NOT_AS_TOLD;
        }
        thought.copyFrom(now);
        sheets[s].become(Sheet.BYTES, n);
        for (int i = 0; i < n; i++) {
            thought.passYear();
            sheets[s].write(i, thought.at[p]);
        }
        return n;
    }

    // ---- weather by lots

    public int drawn(int seed, int what) {
        if (seed < 0 || seed >= SEEDS || what < 0 || what > 1) {
            return BAD;
        }
        passWeather(seed);
        return what == 0 ? thought.choice.digits() : thought.choice.inNone();
    }

    public long odds(int seed, int seeds, int most, int part) {
        if (seed < 0 || seed >= SEEDS || seeds < 1 || seeds > MOST_SEEDS) {
            return NO;
        }
        if (most < 0 || most > STONES || part < 0 || part > 1) {
            return NO;
        }
        int good = 0;
        for (int i = 0; i < seeds; i++) {
            passWeather(seed + i);
            if (thought.choice.inNone() <= most) {
                good++;
            }
        }
        return inLowestTerms(good, seeds, part);
    }

    public int image() {
        kept.copyFrom(now);
        isKept = true;
        return kept.choice.stones;
    }

    public int back() {
        if (!isKept) {
            return STATE;
        }
        now.copyFrom(kept);
        return now.choice.stones;
    }

    // ---- the host

    public int sheet(int s, int sort, int n) {
        if (!isSheet(s) || sort < Sheet.NO_SORT || sort > Sheet.INTS) {
            return BAD;
        }
        if (sort == Sheet.NO_SORT) {
            sheets[s].become(sort, 0);
            return 1;
        }
        if (n > CELLS) {
            return BAD;
        }
        if (n < 0) {
            return BELOW_ZERO;
        }
        sheets[s].become(sort, n);
        return 1;
    }

    public int cell(int s, int i, int v) {
        if (!isSheet(s)) {
            return BAD;
        }
        if (sheets[s].isMissing()) {
            return MISSING;
        }
        if (i < 0 || i >= sheets[s].size) {
            return OUTSIDE;
        }
        sheets[s].write(i, v);
        return 1;
    }

    public int copy(int s, int i, int other, int j, int n) {
        if (!isSheet(s) || !isSheet(other)) {
            return BAD;
        }
        Sheet from = sheets[s], to = sheets[other];
        if (from.isMissing() || to.isMissing()) {
            return MISSING;
        }
        if (from.sort != to.sort) {
            return UNLIKE;
        }
        // a sum of i and n could wrap
        if (n < 0 || i < 0 || j < 0 || i > from.size - n || j > to.size - n) {
            return OUTSIDE;
        }
        System.arraycopy(from.cells, i, to.cells, j, n);
        return n;
    }

    public int stonesBy(int s, int sort, int from, int n) {
        if (!isSheet(s) || sort < Sheet.BYTES || sort > Sheet.INTS || n < 0 || n > STONES) {
            return BAD;
        }
        Sheet row = sheets[s];
        if (row.isMissing()) {
            return MISSING;
        }
        if (row.sort != sort) {
            return UNLIKE;
        }
        if (n > 0 && from < 0) {
            return OUTSIDE;
        }
        int came = 0;
        for (int k = 0; k < n; k++) {
            if (from > row.size - 3 * k - 3) {
                return OUTSIDE;
            }
            int i = from + 3 * k;
            if (stone(row.cells[i], row.cells[i + 1], row.cells[i + 2]) >= 0) {
                came++;
            }
        }
        return came;
    }

    public int taken(int i, int kind) {
        if (kind < 0 || kind > A_BUILDING) {
            return BAD;
        }
        if (i < 0 || i >= STONES + BUILDINGS) {
            return OUTSIDE;
        }
        if (i >= STONES) {
            return kind == A_BUILDING ? now.built[i - STONES] : UNLIKE;
        }
        if (!isStone(i)) {
            return MISSING;
        }
        return kind != A_BUILDING && isOfKind(now.kind[i], kind) ? i : UNLIKE;
    }

    // ---- what several calls need

    private boolean isStone(int p) {
        return p >= 0 && p < now.choice.stones;
    }

    private static boolean isBuilding(int b) {
        return b >= 0 && b < BUILDINGS;
    }

    /** A building as calls answer it: NONE for none. */
    private static int orNone(int b) {
        return b == NOWHERE ? NONE : b;
    }

    private static boolean isSheet(int s) {
        return s >= 0 && s < SHEETS;
    }

    private static boolean isByte(int v) {
        return v >= 0 && v <= 255;
    }

    /** Whether a stone of a kind is one of another kind, too. */
    private static boolean isOfKind(int kind, int other) {
        if (other == STONE || kind == other) {
            return true;
        }
        return other == LINTEL && kind == STEP || other == SLAB && kind == CONVERT;
    }

    /** What a call on told years refuses of its sheet; 0: nothing. */
    private int refusalOfTold(int s) {
        if (!isSheet(s)) {
            return BAD;
        }
        if (sheets[s].isMissing()) {
            return MISSING;
        }
        return sheets[s].size > TOLD_YEARS ? BAD : 0;
    }

    /** The first number of a sheet that is otherwise than where the stone lies, as the thought goes on. */
    private int firstOtherwise(int s, int p) {
        Sheet row = sheets[s];
        for (int i = 0; i < row.size; i++) {
            thought.passYear();
            if (thought.at[p] != row.cells[i]) {
                return i;
            }
        }
        return NONE;
    }

    /** Behind how many years, as the thought goes on, a stone is in a building (NONE: in any). */
    private int yearsTillIn(int p, int b, int most) {
        for (int years = 0; years <= most; years++) {
            if (years > 0) {
                thought.passYear();
            }
            int in = thought.choice.in[p];
            if (b == NONE ? in != NOWHERE : in == b) {
                return years;
            }
        }
        return NONE;
    }

    /** Eight years of weather, in thought. */
    private void passWeather(int seed) {
        thought.copyFrom(now);
        long lot = seed + 1L;
        for (int i = 0; i < WEATHER_YEARS; i++) {
            lot = lot * LOT_FACTOR % LOT_MODULUS;
            int p = (int) (lot % STONES);
            lot = lot * LOT_FACTOR % LOT_MODULUS;
            if (isStone(p)) {
                thought.lay(p, (int) (lot % PLACES));
            }
            thought.passYear();
        }
    }

    /** What is above (part 0) or below the line; NO: below it is 0. */
    private static long inLowestTerms(int above, int below, int part) {
        if (below == 0) {
            return NO;
        }
        int common = 1;
        for (int divisor = 2; divisor <= below; divisor++) {
            if (above % divisor == 0 && below % divisor == 0) {
                common = divisor;
            }
        }
        return (part == 0 ? above : below) / common;
    }

    /** All that an image keeps, and the kinds of stones: how they like, are wanted, go. */
    private static final class World {
        final Choice choice = new Choice();
        final int[] place = new int[BUILDINGS + 1];
        final int[] vain = new int[BUILDINGS + 1];
        final int[] built = new int[BUILDINGS + 1];
        final int[] kind = new int[STONES + 1];
        final int[] more = new int[STONES + 1];
        final int[] at = new int[STONES + 1];
        final int[] weight = new int[STONES + 1];
        private final int[] names = new int[NAMES];
        int yearNow;
        Text law;

        World(Text law) {
            this.law = law;
            for (int b = 0; b < BUILDINGS; b++) {
                place[b] = 20 * b;
            }
        }

        void copyFrom(World other) {
            choice.copyFrom(other.choice);
            System.arraycopy(other.place, 0, place, 0, BUILDINGS);
            System.arraycopy(other.vain, 0, vain, 0, BUILDINGS);
            System.arraycopy(other.built, 0, built, 0, BUILDINGS);
            System.arraycopy(other.kind, 0, kind, 0, STONES);
            System.arraycopy(other.more, 0, more, 0, STONES);
            System.arraycopy(other.at, 0, at, 0, STONES);
            System.arraycopy(other.weight, 0, weight, 0, STONES);
            yearNow = other.yearNow;
            law = other.law;
        }

        /** One more stone: its number; FULL: there are as many as there can be. */
        int add(int kindMore, int where, int heavy) {
            int p = choice.stones;
            if (p >= STONES) {
                return FULL;
            }
            kind[p] = kindMore / MORES;
            more[p] = kindMore % MORES;
            at[p] = where;
            weight[p] = heavy;
            choice.in[p] = NOWHERE;
            choice.stones = p + 1;
            return p;
        }

        /** A stone lies at a place, in no building. */
        void lay(int p, int where) {
            at[p] = where;
            choice.in[p] = NOWHERE;
        }

        /** A building comes to another place, with those in it. */
        void move(int b, int where) {
            place[b] = where;
            for (int p = 0; p < choice.stones; p++) {
                if (choice.in[p] == b) {
                    at[p] = where;
                }
            }
        }

        /** What a part of the law says of a stone and a building (NOWHERE: of none). */
        int says(int part, int p, int b) {
            names[FAR] = b == NOWHERE ? 0 : Math.abs(at[p] - place[b]);
            names[VAIN] = vain[b];
            names[BUILT] = built[b];
            names[WEIGHT] = weight[p];
            names[YEAR] = yearNow;
            names[MORE] = more[p];
            int least = part == GOES ? 0 : -MOST;
            return Math.max(least, Math.min(MOST, law.value(part, names)));
        }

        int likes(int p, int b) {
            if (kind[p] == WHITE && built[b] > more[p]) {
                return -1;
            }
            boolean isLintel = kind[p] == LINTEL || kind[p] == STEP;
            if (isLintel && more[p] % BUILDINGS == b) {
                return 99;
            }
            int said = says(LIKES, p, b);
            if (isLintel) {
                return said / 2;
            }
            return kind[p] == CONVERT && vain[b] > 50 ? -said : said;
        }

        int wants(int p, int b) {
            int said = says(WANTS, p, b);
            if (kind[p] == STEP) {
                return -said;
            }
            boolean asSlab = kind[p] == SLAB || kind[p] == CONVERT && yearNow % 2 == 0;
            return asSlab ? said + 10 * more[p] : said;
        }

        int goes(int p) {
            if (kind[p] == WHITE) {
                return 1;
            }
            boolean isLintel = kind[p] == LINTEL || kind[p] == STEP;
            int said = isLintel && yearNow < 10 ? 0 : says(GOES, p, NOWHERE);
            if (kind[p] == STEP) {
                return said + more[p];
            }
            return kind[p] == SLAB || kind[p] == CONVERT ? said / 2 : said;
        }

        /** Tells how all stones like all buildings, and are wanted by them, as all lies. */
        void tellAll() {
            for (int p = 0; p < choice.stones; p++) {
                for (int b = 0; b < BUILDINGS; b++) {
                    choice.like[p][b] = likes(p, b);
                    choice.want[p][b] = wants(p, b);
                }
            }
        }

        int wish(int p) {
            for (int b = 0; b < BUILDINGS; b++) {
                choice.like[p][b] = likes(p, b);
            }
            return choice.dearest(p, 0);
        }

        /** A year: which stones come to be in a building by it. */
        int passYear() {
            int bits = 0;
            for (int p = 0; p < choice.stones; p++) {
                int b = choice.in[p] == NOWHERE ? wish(p) : NOWHERE;
                if (b != NOWHERE && goTo(p, b)) {
                    bits |= 1 << p;
                }
            }
            yearNow++;
            return bits;
        }

        /** A stone goes towards its wish: whether it comes to be in it. */
        private boolean goTo(int p, int b) {
            int step = goes(p);
            int way = place[b] - at[p];
            at[p] += Math.max(-step, Math.min(step, way));
            if (at[p] != place[b]) {
                return false;
            }
            for (int q = 0; q < choice.stones; q++) {
                if (q == p || choice.in[q] == b) {
                    choice.want[q][b] = wants(q, b);
                }
            }
            if (!choice.takes(p, b)) {
                return false;
            }
            int cast = choice.comeIn(p, b);
            if (cast != NOBODY) {
                at[cast] = place[b];
            }
            built[b] = Math.min(MOST, built[b] + 1);
            return true;
        }
    }

    /** Who is in what, and who would rather be where, by how all like and are wanted. */
    private static final class Choice {
        final int[] room = new int[BUILDINGS + 1];
        /** The building that a stone is in, or NOWHERE. */
        final int[] in = new int[STONES + 1];
        final int[][] like = new int[STONES + 1][BUILDINGS + 1];
        final int[][] want = new int[STONES + 1][BUILDINGS + 1];
        /** Stone by stone the buildings that have sent it away, as bits. */
        private final int[] sent = new int[STONES + 1];
        int stones;

        Choice() {
            for (int b = 0; b < BUILDINGS; b++) {
                room[b] = 1;
            }
        }

        void copyFrom(Choice other) {
            System.arraycopy(other.room, 0, room, 0, BUILDINGS);
            System.arraycopy(other.in, 0, in, 0, STONES);
            stones = other.stones;
        }

        void emptyAll() {
            for (int p = 0; p < STONES; p++) {
                in[p] = NOWHERE;
            }
        }

        int inNone() {
            return housed(NOWHERE);
        }

        int housed(int b) {
            int many = 0;
            for (int p = 0; p < stones; p++) {
                many += in[p] == b ? 1 : 0;
            }
            return many;
        }

        int housedBits(int b) {
            int bits = 0;
            for (int p = 0; p < stones; p++) {
                bits |= in[p] == b ? 1 << p : 0;
            }
            return bits;
        }

        int digits() {
            int digits = 0;
            for (int p = 0; p < stones; p++) {
                digits = 10 * digits + (in[p] == NOWHERE ? 0 : in[p] + 1);
            }
            return digits;
        }

        int liked() {
            int sum = 0;
            for (int p = 0; p < stones; p++) {
                sum += like[p][in[p]];
            }
            return sum;
        }

        int wanted() {
            int sum = 0;
            for (int p = 0; p < stones; p++) {
                sum += want[p][in[p]];
            }
            return sum;
        }

        /** Whether a stone would rather be in a building than in another one, or than NOWHERE, which it likes by 0. */
        boolean ratherBeIn(int p, int b, int other) {
            int it = like[p][b], that = like[p][other];
            return it > 0 && (it > that || it == that && b < other);
        }

        /** The building that a stone would rather be in than in any other but some (bits), and in none. */
        int dearest(int p, int but) {
            int dearest = NOWHERE;
            for (int b = 0; b < BUILDINGS; b++) {
                if ((but >> b & 1) == 0 && ratherBeIn(p, b, dearest)) {
                    dearest = b;
                }
            }
            return dearest;
        }

        private boolean ratherHave(int b, int p, int other) {
            return want[p][b] > want[other][b] || want[p][b] == want[other][b] && p < other;
        }

        /** The one in a building than which it would rather have all others in it; NOBODY: nobody is in it. */
        private int last(int b) {
            int last = NOBODY;
            for (int p = 0; p < stones; p++) {
                if (in[p] == b && (last == NOBODY || ratherHave(b, last, p))) {
                    last = p;
                }
            }
            return last;
        }

        boolean takes(int p, int b) {
            if (in[p] == b) {
                return false;
            }
            if (housed(b) < room[b]) {
                return true;
            }
            int last = last(b);
            return last != NOBODY && room[b] > 0 && ratherHave(b, p, last);
        }

        /** A stone comes to be in a building: who is cast out for it, or NOBODY. */
        int comeIn(int p, int b) {
            int cast = housed(b) < room[b] ? NOBODY : last(b);
            if (cast != NOBODY) {
                in[cast] = NOWHERE;
            }
            in[p] = b;
            return cast;
        }

        void askInTurn() {
            emptyAll();
            for (int p = 0; p < STONES; p++) {
                sent[p] = 0;
            }
            boolean asked = true;
            // each round but the last sends one away or houses one, so the rounds are few
            for (int i = 0; asked && i < 1000; i++) {
                asked = false;
                for (int p = 0; p < stones; p++) {
                    int b = in[p] == NOWHERE ? dearest(p, sent[p]) : NOWHERE;
                    if (b != NOWHERE) {
                        asked = true;
                        ask(p, b);
                    }
                }
            }
        }

        private void ask(int p, int b) {
            int away = takes(p, b) ? comeIn(p, b) : p;
            if (away != NOBODY) {
                sent[away] |= 1 << b;
            }
        }

        /** What is against peace, 10 times the stone and 9 or the building; -1: nothing. */
        int complaint() {
            for (int p = 0; p < stones; p++) {
                if (in[p] != NOWHERE && like[p][in[p]] <= 0) {
                    return 10 * p + 9;
                }
                for (int b = 0; b < BUILDINGS; b++) {
                    if (ratherBeIn(p, b, in[p]) && takes(p, b)) {
                        return 10 * p + b;
                    }
                }
            }
            return NONE;
        }

        boolean fits() {
            for (int b = 0; b < BUILDINGS; b++) {
                if (housed(b) > room[b]) {
                    return false;
                }
            }
            return true;
        }

        /** The next way, by digits, in which stones could be in buildings; false: there is none. */
        boolean nextWay() {
            for (int p = stones - 1; p >= 0; p--) {
                in[p] = in[p] == NOWHERE ? 0 : in[p] + 1;
                if (in[p] != NOWHERE) {
                    return true;
                }
            }
            return false;
        }
    }

    /** A text as it was read: what it says, in the order in which it is worked out. */
    private static final class Text {
        static final int END = 0, NUMBER = 1, NAME = 2, NEGATE = 3, NOT = 4, TIMES = 5;
        static final int PLUS = 6, MINUS = 7, LESS = 8, EQUAL = 9, AND = 10, OR = 11;
        /** More than five open brackets, each with five signs that wait, can need. */
        private static final int DEPTH = 40;
        /** Where the first value comes; what lies below it is blank, and keeps all indices in the row. */
        private static final int BOTTOM = 2;

        final int number;
        private final int[] code;
        private final int[] starts;
        private final int[] stack = new int[DEPTH];

        Text(int number, int[] code, int[] starts) {
            this.number = number;
            this.code = code;
            this.starts = starts;
        }

        /** What a part says, unbounded, by what the names stand for. */
        int value(int part, int[] names) {
            int top = BOTTOM - 1;
            for (int i = starts[part]; i < code.length; i++) {
                int order = code[i] & 15, v = code[i] >> 4;
                if (order == END) {
                    break;
                }
                if (order == NUMBER || order == NAME) {
                    if (top >= DEPTH - 1) {
                        return 0;
                    }
                    top++;
                    stack[top] = order == NUMBER ? v : names[v];
                } else if (order == NEGATE || order == NOT) {
                    if (top < BOTTOM) {
                        return 0;
                    }
                    int one = stack[top];
                    stack[top] = order == NEGATE ? -one : one == 0 ? 1 : 0;
                } else {
                    if (top < BOTTOM + 1) {
                        return 0;
                    }
                    top--;
                    int left = stack[top], right = stack[top + 1], result;
                    switch (order) {
                        case TIMES: result = left * right; break;
                        case PLUS: result = left + right; break;
                        case MINUS: result = left - right; break;
                        case LESS: result = left < right ? 1 : 0; break;
                        case EQUAL: result = left == right ? 1 : 0; break;
                        case AND: result = left != 0 && right != 0 ? 1 : 0; break;
                        default: result = left != 0 || right != 0 ? 1 : 0; break;
                    }
                    stack[top] = result;
                }
            }
            return top < BOTTOM ? 0 : stack[top];
        }
    }

    /** The tape, and what reads it as a text. */
    private static final class Reader {
        private static final int OPEN = 5;
        /** Tokens beside the signs, which stand for themselves. */
        private static final int WRONG = -1, TEXT_END = -2, A_NUMBER = -3, A_NAME = -4;
        private static final int KEY_LIKES = -5, KEY_WANTS = -6, KEY_GOES = -7;
        private static final int KEY_OR = -8, KEY_AND = -9, KEY_NOT = -10;

        private final int[] tape = new int[TAPE];
        int size;
        private final int[] code = new int[TAPE];
        private int codes;
        private final int[] starts = new int[PARTS];
        private int token;
        /** A number, or which name. */
        private int value;
        /** The first byte of the token, and the one behind it. */
        private int from;
        private int behind;
        private int fault;

        void clear() {
            size = 0;
        }

        /** One more byte on the tape, if there is room for it. */
        void take(int v) {
            if (size < TAPE) {
                tape[size] = v;
                size++;
            }
        }

        /** Reads the tape as a text: the place of its fault; -1: none. */
        int read() {
            codes = 0;
            fault = -1;
            behind = 0;
            next();
            part(LIKES, KEY_LIKES);
            part(WANTS, KEY_WANTS);
            part(GOES, KEY_GOES);
            expect(TEXT_END);
            return fault;
        }

        /** The text that was read without a fault. */
        Text made(int number) {
            int[] own = new int[codes];
            System.arraycopy(code, 0, own, 0, codes);
            return new Text(number, own, starts.clone());
        }

        private void part(int part, int key) {
            expect(key);
            starts[part] = codes;
            either(0);
            expect(';');
            emit(Text.END, 0);
        }

        private void expect(int wanted) {
            if (token == wanted) {
                next();
            } else {
                fail();
            }
        }

        /** Keeps the first fault; no token stands anywhere behind it, so that all reading ends. */
        private void fail() {
            if (fault < 0) {
                fault = from;
            }
            token = WRONG;
        }

        private void emit(int order, int v) {
            if (codes < code.length) {
                code[codes] = v << 4 | order;
                codes++;
            }
        }

        private void either(int open) {
            both(open);
            for (int i = 0; token == KEY_OR && i < TAPE; i++) {
                next();
                both(open);
                emit(Text.OR, 0);
            }
        }

        private void both(int open) {
            not(open);
            for (int i = 0; token == KEY_AND && i < TAPE; i++) {
                next();
                not(open);
                emit(Text.AND, 0);
            }
        }

        private void not(int open) {
            if (token == KEY_NOT) {
                if (open >= OPEN) {
                    fail();
                    return;
                }
                next();
                not(open + 1);
                emit(Text.NOT, 0);
                return;
            }
            sum(open);
            if (token == '<' || token == '=') {
                int order = token == '<' ? Text.LESS : Text.EQUAL;
                next();
                sum(open);
                emit(order, 0);
            }
        }

        private void sum(int open) {
            term(open);
            for (int i = 0; (token == '+' || token == '-') && i < TAPE; i++) {
                int order = token == '-' ? Text.MINUS : Text.PLUS;
                next();
                term(open);
                emit(order, 0);
            }
        }

        private void term(int open) {
            one(open);
            for (int i = 0; token == '*' && i < TAPE; i++) {
                next();
                one(open);
                emit(Text.TIMES, 0);
            }
        }

        private void one(int open) {
            if (token == A_NUMBER || token == A_NAME) {
                emit(token == A_NUMBER ? Text.NUMBER : Text.NAME, value);
                next();
                return;
            }
            if (token != '(' && token != '-' || open >= OPEN) {
                fail();
                return;
            }
            boolean isMinus = token == '-';
            next();
            if (isMinus) {
                one(open + 1);
                emit(Text.NEGATE, 0);
            } else {
                either(open + 1);
                expect(')');
            }
        }

        private void next() {
            if (fault >= 0) {
                return;
            }
            from = behind;
            while (from < size && (tape[from] == ' ' || tape[from] == '\n')) {
                from++;
            }
            if (from >= size) {
                behind = from;
                token = TEXT_END;
                return;
            }
            int first = tape[from];
            behind = from + 1;
            if (isLetter(first)) {
                word();
            } else if (isDigit(first)) {
                number();
            } else {
                token = isSign(first) ? first : WRONG;
            }
        }

        private void word() {
            while (behind < size && isLetter(tape[behind])) {
                behind++;
            }
            token = WRONG;
            mean("likes", KEY_LIKES, 0);
            mean("wants", KEY_WANTS, 0);
            mean("goes", KEY_GOES, 0);
            mean("or", KEY_OR, 0);
            mean("and", KEY_AND, 0);
            mean("not", KEY_NOT, 0);
            mean("far", A_NAME, FAR);
            mean("vain", A_NAME, VAIN);
            mean("built", A_NAME, BUILT);
            mean("weight", A_NAME, WEIGHT);
            mean("year", A_NAME, YEAR);
            mean("more", A_NAME, MORE);
        }

        private void number() {
            value = 0;
            for (behind = from; behind < size && isDigit(tape[behind]); behind++) {
                value = 10 * value + tape[behind] - '0';
            }
            token = behind - from > 4 ? WRONG : A_NUMBER;
        }

        /** Is the token at hand this word, it means what is told. */
        private void mean(String word, int itsToken, int itsValue) {
            boolean same = word.length() == behind - from;
            for (int i = 0; same && i < word.length(); i++) {
                same = tape[from + i] == word.charAt(i);
            }
            if (same) {
                token = itsToken;
                value = itsValue;
            }
        }

        private static boolean isLetter(int v) {
            return v >= 'a' && v <= 'z';
        }

        private static boolean isDigit(int v) {
            return v >= '0' && v <= '9';
        }

        private static boolean isSign(int v) {
            return v == '(' || v == ')' || v == ';' || v == '+' || v == '-' || v == '*' || v == '<' || v == '=';
        }
    }

    /** A row of numbers, or missing. */
    private static final class Sheet {
        static final int NO_SORT = -1, BYTES = 0, SHORTS = 1, INTS = 2;

        final int[] cells = new int[CELLS];
        int sort = NO_SORT;
        int size;

        boolean isMissing() {
            return sort == NO_SORT;
        }

        void become(int newSort, int newSize) {
            sort = newSort;
            size = newSize;
            for (int i = 0; i < CELLS; i++) {
                cells[i] = 0;
            }
        }

        void write(int i, int v) {
            if (i >= 0 && i < size) {
                cells[i] = sort == BYTES ? (byte) v : sort == SHORTS ? (short) v : v;
            }
        }
    }
}

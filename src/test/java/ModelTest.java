import java.util.Random;

/** Long runs of drawn calls, of all promises, each answer held against the model's. */
public final class ModelTest {
    private static final int RUNS = 400;
    private static final int CALLS = 240;

    private final Due due;
    private final int run;
    private final Random lots;
    private final StonesChoose x = new StonesChoose();
    private final Model m = new Model();
    private int calls;

    private ModelTest(Due due, int run) {
        this.due = due;
        this.run = run;
        lots = new Random(run);
    }

    public static void main(String[] args) {
        Due due = new Due("ModelTest");
        for (int run = 0; run < RUNS; run++) {
            new ModelTest(due, run).play();
        }
        due.end();
    }

    private void play() {
        int first = lots.nextInt(12);
        for (int i = 0; i < first; i++) {
            build();
        }
        int stones = lots.nextInt(8);
        for (int i = 0; i < stones; i++) {
            stone();
        }
        while (calls < CALLS) {
            step();
        }
        look();
    }

    private void due(String call, long got, long want) {
        calls++;
        due.is("run " + run + " call " + calls + " " + call, got, want);
    }

    private int upTo(int most) {
        return lots.nextInt(most + 1);
    }

    /** Mostly 0 .. most; now and then one beside it, or far off. */
    private int near(int most) {
        switch (lots.nextInt(40)) {
            case 0: return -1;
            case 1: return most + 1;
            case 2: return lots.nextInt();
            case 3: return lots.nextBoolean() ? Integer.MAX_VALUE : Integer.MIN_VALUE;
            default: return upTo(most);
        }
    }

    private int stoneNumber() {
        return near(Math.max(0, m.w.stones.size() - 1));
    }

    private void step() {
        switch (lots.nextInt(16)) {
            case 0: case 1: change(); break;
            case 2: case 3: years(); break;
            case 4: law(); break;
            case 5: case 6: ask(); break;
            case 7: peace(); break;
            case 8: best(); break;
            case 9: case 10: case 11: toldYears(); break;
            case 12: weather(); break;
            case 13: image(); break;
            case 14: case 15: host(); break;
            default: break;
        }
    }

    private void look() {
        for (int what = -1; what < 7; what++) {
            due("count(" + what + ")", x.count(what), m.count(what));
        }
        for (int b = 0; b < 5; b++) {
            for (int what = 0; what < 5; what++) {
                due("site(" + b + ", " + what + ")", x.site(b, what), m.site(b, what));
            }
        }
        for (int p = 0; p < 5; p++) {
            for (int what = 0; what < 7; what++) {
                due("told(" + p + ", " + what + ")", x.told(p, what), m.told(p, what));
            }
        }
    }

    private void build() {
        int b = near(4);
        int what = near(3);
        int v = what == 1 ? near(5) : what == 3 && lots.nextInt(3) == 0 ? near(9) : near(99);
        due("build(" + b + ", " + what + ", " + v + ")", x.build(b, what, v), m.build(b, what, v));
    }

    private void stone() {
        int kindMore = near(59);
        int where = near(99);
        int heavy = lots.nextInt(4) == 0 ? near(3) : near(99);
        due("stone(" + kindMore + ", " + where + ", " + heavy + ")", x.stone(kindMore, where, heavy),
            m.stone(kindMore, where, heavy));
    }

    private void change() {
        switch (lots.nextInt(6)) {
            case 0: {
                int v = lots.nextInt(3) == 0 ? 990 + upTo(9) : lots.nextInt(3) == 0 ? near(20) : near(999);
                due("dawn(" + v + ")", x.dawn(v), m.dawn(v));
                break;
            }
            case 1: {
                int p = stoneNumber();
                int what = near(1);
                int v = near(99);
                due("put(" + p + ", " + what + ", " + v + ")", x.put(p, what, v), m.put(p, what, v));
                break;
            }
            case 2: stone(); break;
            default: build(); break;
        }
    }

    private void years() {
        switch (lots.nextInt(5)) {
            case 0: {
                int n = near(40);
                int what = lots.nextBoolean() ? near(1) : 10 + stoneNumber();
                due("run(" + n + ", " + what + ")", x.run(n, what), m.run(n, what));
                break;
            }
            case 1: {
                int p = stoneNumber();
                int what = near(5) - 1;
                due("when(" + p + ", " + what + ")", x.when(p, what), m.when(p, what));
                break;
            }
            default:
                for (int i = upTo(4); i >= 0; i--) {
                    due("year()", x.year(), m.year());
                }
                break;
        }
    }

    private void law() {
        if (lots.nextInt(3) == 0) {
            int t = near(m.texts.size() - 1);
            due("force(" + t + ")", x.force(t), m.force(t));
            return;
        }
        if (lots.nextInt(6) == 0) {
            int n = 1 + near(4);
            int[] v = {near(255), near(255), near(255), near(255), near(255)};
            due("feed(" + n + ", ..)", x.feed(n, v[0], v[1], v[2], v[3], v[4]), m.feed(n, v));
            return;
        }
        String text = drawnText();
        for (int i = 0; i < text.length(); i += 5) {
            int[] v = new int[5];
            int n = Math.min(5, text.length() - i);
            for (int k = 0; k < n; k++) {
                v[k] = text.charAt(i + k);
            }
            due("feed(" + n + ", " + text + ")", x.feed(n, v[0], v[1], v[2], v[3], v[4]), m.feed(n, v));
        }
        due("text(), " + text, x.text(), m.text());
        int t = m.texts.size() - 1;
        due("force(" + t + ")", x.force(t), m.force(t));
    }

    private String drawnText() {
        StringBuilder text = new StringBuilder("likes ");
        if (lots.nextInt(3) > 0) {
            text.append("99 - far + ");
        }
        expr(text, 3);
        text.append("; wants weight + ");
        expr(text, 2);
        text.append(lots.nextInt(3) == 0 ? "; goes " : "; goes 5 + ");
        expr(text, 1);
        text.append(lots.nextInt(4) == 0 ? "; \n" : ";");
        if (lots.nextInt(5) == 0) {
            int at = upTo(text.length() - 1);
            String signs = "();+-*<= \nazAnot09\u00ff\u0000";
            if (lots.nextBoolean()) {
                text.setCharAt(at, signs.charAt(upTo(signs.length() - 1)));
            } else if (lots.nextBoolean()) {
                text.insert(at, signs.charAt(upTo(signs.length() - 1)));
            } else {
                text.setLength(at);
            }
        }
        if (text.length() > 160) {
            text.setLength(160);
        }
        return text.toString();
    }

    private void expr(StringBuilder text, int depth) {
        String[] ones = {"far", "vain", "built", "weight", "year", "more", "0", "1", "2", "50", "9999", "10000", "far"};
        String[] between = {" + ", " - ", "*", "<", "=", " or ", " and ", "\n+ "};
        int ways = lots.nextInt(10);
        if (depth == 0 || ways < 2) {
            int most = lots.nextInt(8) == 0 ? ones.length - 1 : 9;
            text.append(ones[upTo(most)]);
        } else if (ways < 7) {
            expr(text, depth - 1);
            text.append(between[upTo(between.length - 1)]);
            expr(text, depth - 1);
        } else if (ways < 8) {
            text.append("-".repeat(1 + upTo(lots.nextInt(6) == 0 ? 5 : 1)));
            expr(text, depth - 1);
        } else if (ways < 9) {
            int brackets = 1 + upTo(lots.nextInt(6) == 0 ? 5 : 0);
            text.append("(".repeat(brackets));
            expr(text, depth - 1);
            text.append(")".repeat(brackets));
        } else {
            text.append("(not ");
            expr(text, depth - 1);
            text.append(")");
        }
    }

    private void ask() {
        int p = stoneNumber();
        switch (lots.nextInt(3)) {
            case 0: {
                int part = near(2);
                int b = near(5) - 1;
                due("asks(" + part + ", " + p + ", " + b + ")", x.asks(part, p, b), m.asks(part, p, b));
                break;
            }
            case 1: {
                int what = near(6);
                due("told(" + p + ", " + what + ")", x.told(p, what), m.told(p, what));
                break;
            }
            default: {
                int b = near(4);
                int what = near(1);
                due("love(" + p + ", " + b + ", " + what + ")", x.love(p, b, what), m.love(p, b, what));
                break;
            }
        }
    }

    private void peace() {
        int what = near(2);
        due("peace(" + what + ")", x.peace(what), m.peace(what));
        due("court(" + what + ")", x.court(what), m.court(what));
        int ofAll = near(4);
        if (lots.nextInt(4) == 0) {
            due("all(" + ofAll + ")", x.all(ofAll), m.all(ofAll));
        }
    }

    private void best() {
        int what = near(1);
        due("annex(" + what + ")", x.annex(what), m.annex(what));
        due("share(" + what + ")", x.share(what), m.share(what));
        int p = stoneNumber();
        if (lots.nextInt(4) == 0) {
            due("cart(" + p + ", " + what + ")", x.cart(p, what), m.cart(p, what));
        }
    }

    private void toldYears() {
        int s = near(3);
        int p = stoneNumber();
        if (lots.nextInt(3) == 0) {
            int n = near(lots.nextBoolean() ? 4 : 20);
            due("film(" + s + ", " + p + ", " + n + ")", x.film(s, p, n), m.film(s, p, n));
            p = lots.nextInt(3) == 0 ? stoneNumber() : p;
        }
        int sort = near(1);
        int what = near(1);
        switch (lots.nextInt(5)) {
            case 0: due("judge(" + s + ", " + p + ")", x.judge(s, p), m.judge(s, p)); break;
            case 1: due("kinds(" + s + ", " + p + ", " + sort + ")", x.kinds(s, p, sort), m.kinds(s, p, sort)); break;
            case 2: due("states(" + s + ", " + p + ", " + sort + ", " + what + ")", x.states(s, p, sort, what),
                m.states(s, p, sort, what)); break;
            case 3: due("whose(" + s + ")", x.whose(s), m.whose(s)); break;
            default: due("laws(" + s + ", " + p + ")", x.laws(s, p), m.laws(s, p)); break;
        }
    }

    private void weather() {
        int seed = lots.nextInt(4) == 0 ? near(99999) : near(9);
        int what = near(1);
        due("drawn(" + seed + ", " + what + ")", x.drawn(seed, what), m.drawn(seed, what));
        int seeds = 1 + near(39);
        int most = near(5);
        if (lots.nextInt(3) == 0) {
            due("odds(" + seed + ", " + seeds + ", " + most + ", " + what + ")", x.odds(seed, seeds, most, what),
                m.odds(seed, seeds, most, what));
        }
    }

    private void image() {
        if (lots.nextInt(3) == 0) {
            due("image()", x.image(), m.image());
        } else {
            due("back()", x.back(), m.back());
        }
    }

    private void host() {
        int s = near(3);
        switch (lots.nextInt(7)) {
            case 0: {
                int sort = near(3) - 1;
                int n = near(lots.nextBoolean() ? 40 : 20);
                due("sheet(" + s + ", " + sort + ", " + n + ")", x.sheet(s, sort, n), m.sheet(s, sort, n));
                break;
            }
            case 1: case 2: {
                int i = near(m.rows[Math.floorMod(s, 4)] == null ? 3 : m.rows[Math.floorMod(s, 4)].length);
                int v = lots.nextInt(3) == 0 ? lots.nextInt(70000) : near(99);
                due("cell(" + s + ", " + i + ", " + v + ")", x.cell(s, i, v), m.cell(s, i, v));
                break;
            }
            case 3: {
                int i = near(20);
                int other = near(3);
                int j = near(20);
                int n = near(20);
                due("copy(" + s + ", " + i + ", " + other + ", " + j + ", " + n + ")", x.copy(s, i, other, j, n),
                    m.copy(s, i, other, j, n));
                break;
            }
            case 4: {
                int sort = near(2);
                int from = near(20);
                int n = near(5);
                due("stonesBy(" + s + ", " + sort + ", " + from + ", " + n + ")", x.stonesBy(s, sort, from, n),
                    m.stonesBy(s, sort, from, n));
                break;
            }
            default: {
                int i = near(9);
                int kind = near(6);
                due("taken(" + i + ", " + kind + ")", x.taken(i, kind), m.taken(i, kind));
                break;
            }
        }
    }
}

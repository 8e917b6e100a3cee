import java.util.ArrayList;
import java.util.Arrays;
import java.util.List;

/**
 * The document once more, slowly and in other ways than StonesChoose: kinds are classes, texts are trees,
 * every thought is a fresh copy. What both answer alike, two readings of the document agree on.
 */
final class Model {
    static final long NO = -4611686018427387904L;

    /** Thrown by the reading of a text, at the place of its fault. */
    static final class Fault extends RuntimeException {
        private static final long serialVersionUID = 1L;
        final int place;

        Fault(int place) {
            super(null, null, false, false);
            this.place = place;
        }
    }

    interface Expr {
        int of(int[] env);
    }

    static final class Law {
        Expr likes;
        Expr wants;
        Expr goes;
    }

    private static final List<String> NAMES = List.of("far", "vain", "built", "weight", "year", "more");
    private static final List<String> KEYS = List.of("likes", "wants", "goes", "or", "and", "not");

    /** Reads a text by looking at its bytes again wherever it stands. */
    static final class Parse {
        final String text;
        int i;
        int open;

        Parse(String text) {
            this.text = text;
        }

        Law law() {
            Law law = new Law();
            need("likes");
            law.likes = or();
            need(";");
            need("wants");
            law.wants = or();
            need(";");
            need("goes");
            law.goes = or();
            need(";");
            if (!peek().isEmpty()) {
                throw new Fault(i);
            }
            return law;
        }

        /** The token at hand; empty at the end. Puts i on its first byte. */
        String peek() {
            while (i < text.length() && (text.charAt(i) == 32 || text.charAt(i) == 10)) {
                i++;
            }
            if (i == text.length()) {
                return "";
            }
            int j = i;
            while (j < text.length() && text.substring(i, j + 1).matches("[a-z]+|[0-9]+")) {
                j++;
            }
            if (j > i) {
                String word = text.substring(i, j);
                boolean known = Character.isDigit(word.charAt(0)) ? word.length() <= 4
                        : NAMES.contains(word) || KEYS.contains(word);
                if (!known) {
                    throw new Fault(i);
                }
                return word;
            }
            if ("();+-*<=".indexOf(text.charAt(i)) < 0) {
                throw new Fault(i);
            }
            return text.substring(i, i + 1);
        }

        boolean has(String token) {
            if (peek().equals(token)) {
                i += token.length();
                return true;
            }
            return false;
        }

        void need(String token) {
            if (!has(token)) {
                throw new Fault(i);
            }
        }

        void deeper() {
            if (open == 5) {
                throw new Fault(i);
            }
            open++;
        }

        Expr or() {
            Expr left = and();
            while (has("or")) {
                Expr a = left;
                Expr b = and();
                left = env -> (a.of(env) != 0 | b.of(env) != 0) ? 1 : 0;
            }
            return left;
        }

        Expr and() {
            Expr left = not();
            while (has("and")) {
                Expr a = left;
                Expr b = not();
                left = env -> (a.of(env) != 0 & b.of(env) != 0) ? 1 : 0;
            }
            return left;
        }

        Expr not() {
            if (peek().equals("not")) {
                deeper();
                need("not");
                Expr a = not();
                open--;
                return env -> a.of(env) == 0 ? 1 : 0;
            }
            Expr a = sum();
            if (has("<")) {
                Expr b = sum();
                return env -> a.of(env) < b.of(env) ? 1 : 0;
            }
            if (has("=")) {
                Expr b = sum();
                return env -> a.of(env) == b.of(env) ? 1 : 0;
            }
            return a;
        }

        Expr sum() {
            Expr left = term();
            while (true) {
                Expr a = left;
                if (has("+")) {
                    Expr b = term();
                    left = env -> a.of(env) + b.of(env);
                } else if (has("-")) {
                    Expr b = term();
                    left = env -> a.of(env) - b.of(env);
                } else {
                    return left;
                }
            }
        }

        Expr term() {
            Expr left = one();
            while (has("*")) {
                Expr a = left;
                Expr b = one();
                left = env -> a.of(env) * b.of(env);
            }
            return left;
        }

        Expr one() {
            String token = peek();
            if (token.equals("(")) {
                deeper();
                need("(");
                Expr inner = or();
                need(")");
                open--;
                return inner;
            }
            if (token.equals("-")) {
                deeper();
                need("-");
                Expr inner = one();
                open--;
                return env -> -inner.of(env);
            }
            int name = NAMES.indexOf(token);
            if (name >= 0) {
                i += token.length();
                return env -> env[name];
            }
            if (!token.isEmpty() && Character.isDigit(token.charAt(0))) {
                i += token.length();
                int number = Integer.parseInt(token);
                return env -> number;
            }
            throw new Fault(i);
        }
    }

    static final class Building {
        int number;
        int place;
        int room = 1;
        int vain;
        int built;

        Building(int number) {
            this.number = number;
            place = 20 * number;
        }

        Building copy() {
            Building b = new Building(number);
            b.place = place;
            b.room = room;
            b.vain = vain;
            b.built = built;
            return b;
        }
    }

    static class Stone {
        int kind;
        int more;
        int at;
        int weight;
        int in = -1;

        int says(int part, World w, Building b) {
            int[] env = {b == null ? 0 : Math.abs(at - b.place), b == null ? 0 : b.vain, b == null ? 0 : b.built,
                weight, w.year, more};
            Expr e = part == 0 ? w.law.likes : part == 1 ? w.law.wants : w.law.goes;
            int v = e.of(env);
            int least = part == 2 ? 0 : -99;
            return v < least ? least : v > 99 ? 99 : v;
        }

        int likes(World w, Building b) {
            return says(0, w, b);
        }

        int wanted(World w, Building b) {
            return says(1, w, b);
        }

        int goes(World w) {
            return says(2, w, null);
        }

        static Stone of(int kind) {
            Stone s;
            switch (kind) {
                case 0: s = new Stone(); break;
                case 1: s = new Lintel(); break;
                case 2: s = new Slab(); break;
                case 3: s = new Step(); break;
                case 4: s = new Convert(); break;
                default: s = new White(); break;
            }
            s.kind = kind;
            return s;
        }

        Stone as(int newKind) {
            Stone s = of(newKind);
            s.more = more;
            s.at = at;
            s.weight = weight;
            s.in = in;
            return s;
        }
    }

    static class Lintel extends Stone {
        @Override int likes(World w, Building b) {
            return b.number == more % 5 ? 99 : super.likes(w, b) / 2;
        }

        @Override int goes(World w) {
            return w.year < 10 ? 0 : super.goes(w);
        }
    }

    static class Slab extends Stone {
        @Override int wanted(World w, Building b) {
            return super.wanted(w, b) + more * 10;
        }

        @Override int goes(World w) {
            return super.goes(w) / 2;
        }
    }

    static final class Step extends Lintel {
        @Override int goes(World w) {
            return super.goes(w) + more;
        }

        @Override int wanted(World w, Building b) {
            return 0 - super.wanted(w, b);
        }
    }

    static final class Convert extends Slab {
        @Override int likes(World w, Building b) {
            return b.vain > 50 ? 0 - super.likes(w, b) : super.likes(w, b);
        }

        @Override int wanted(World w, Building b) {
            return w.year % 2 == 0 ? super.wanted(w, b) : says(1, w, b);
        }
    }

    static final class White extends Stone {
        @Override int likes(World w, Building b) {
            return b.built > more ? 0 - 1 : super.likes(w, b);
        }

        @Override int goes(World w) {
            return 1;
        }
    }

    static final class World {
        List<Building> buildings = new ArrayList<>();
        List<Stone> stones = new ArrayList<>();
        int year;
        Law law;

        World copy() {
            World w = new World();
            for (Building b : buildings) {
                w.buildings.add(b.copy());
            }
            for (Stone s : stones) {
                w.stones.add(s.as(s.kind));
            }
            w.year = year;
            w.law = law;
            return w;
        }

        List<Integer> inside(int b) {
            List<Integer> list = new ArrayList<>();
            for (int p = 0; p < stones.size(); p++) {
                if (stones.get(p).in == b) {
                    list.add(p);
                }
            }
            return list;
        }

        int likes(int p, int b) {
            return stones.get(p).likes(this, buildings.get(b));
        }

        int wanted(int p, int b) {
            return stones.get(p).wanted(this, buildings.get(b));
        }

        boolean rather(int p, int b, int than) {
            int like = likes(p, b);
            if (like <= 0) {
                return false;
            }
            if (than == -1) {
                return true;
            }
            int other = likes(p, than);
            return like > other || like == other && b < than;
        }

        boolean ratherHave(int b, int p, int than) {
            int mine = wanted(p, b);
            int other = wanted(than, b);
            return mine > other || mine == other && p < than;
        }

        int wish(int p, int sentAway) {
            for (int b = 0; b < 5; b++) {
                boolean first = (sentAway >> b & 1) == 0 && rather(p, b, -1);
                for (int other = 0; other < 5; other++) {
                    if (other != b && (sentAway >> other & 1) == 0 && !rather(p, b, other)) {
                        first = false;
                    }
                }
                if (first) {
                    return b;
                }
            }
            return -1;
        }

        int last(int b) {
            List<Integer> all = inside(b);
            all.sort((p, q) -> ratherHave(b, p, q) ? -1 : 1);
            return all.get(all.size() - 1);
        }

        boolean takes(int b, int p) {
            if (stones.get(p).in == b) {
                return false;
            }
            if (inside(b).size() < buildings.get(b).room) {
                return true;
            }
            return buildings.get(b).room > 0 && ratherHave(b, p, last(b));
        }

        /** A stone that is taken comes in; who is sent away for it, -1: nobody. */
        int enter(int b, int p) {
            int away = -1;
            if (inside(b).size() >= buildings.get(b).room) {
                away = last(b);
                stones.get(away).in = -1;
            }
            stones.get(p).in = b;
            return away;
        }

        int pass() {
            int bits = 0;
            for (int p = 0; p < stones.size(); p++) {
                Stone s = stones.get(p);
                int b = s.in == -1 ? wish(p, 0) : -1;
                if (b == -1) {
                    continue;
                }
                Building house = buildings.get(b);
                int goes = s.goes(this);
                for (int i = 0; i < goes && s.at != house.place; i++) {
                    s.at += s.at < house.place ? 1 : -1;
                }
                if (s.at == house.place && takes(b, p)) {
                    int away = enter(b, p);
                    if (away != -1) {
                        stones.get(away).at = house.place;
                    }
                    if (house.built < 99) {
                        house.built++;
                    }
                    bits |= 1 << p;
                }
            }
            year++;
            return bits;
        }

        int digits() {
            StringBuilder digits = new StringBuilder("0");
            for (Stone s : stones) {
                digits.append(s.in + 1);
            }
            return Integer.parseInt(digits.toString());
        }

        int out() {
            return inside(-1).size();
        }

        int liked() {
            int sum = 0;
            for (int p = 0; p < stones.size(); p++) {
                sum += stones.get(p).in == -1 ? 0 : likes(p, stones.get(p).in);
            }
            return sum;
        }

        int wantedSum() {
            int sum = 0;
            for (int p = 0; p < stones.size(); p++) {
                sum += stones.get(p).in == -1 ? 0 : wanted(p, stones.get(p).in);
            }
            return sum;
        }

        int against() {
            for (int p = 0; p < stones.size(); p++) {
                int in = stones.get(p).in;
                if (in != -1 && likes(p, in) <= 0) {
                    return 10 * p + 9;
                }
                for (int b = 0; b < 5; b++) {
                    if (b != in && rather(p, b, in) && takes(b, p)) {
                        return 10 * p + b;
                    }
                }
            }
            return -1;
        }

        World courted() {
            World w = copy();
            for (Stone s : w.stones) {
                s.in = -1;
            }
            int[] away = new int[5];
            boolean asks = true;
            while (asks) {
                asks = false;
                for (int p = 0; p < stones.size(); p++) {
                    int b = w.stones.get(p).in == -1 ? w.wish(p, away[p]) : -1;
                    if (b == -1) {
                        continue;
                    }
                    asks = true;
                    int sent = w.takes(b, p) ? w.enter(b, p) : p;
                    if (sent != -1) {
                        away[sent] |= 1 << b;
                    }
                }
            }
            return w;
        }

        /** All ways: how many, the digits and the liking of the best. */
        int[] ways(boolean peaceOnly) {
            World w = copy();
            int[] found = {0, -1, 0};
            ways(w, 0, peaceOnly, found);
            return found;
        }

        private static void ways(World w, int p, boolean peaceOnly, int[] found) {
            if (p == w.stones.size()) {
                if (!peaceOnly || w.against() == -1) {
                    int liked = w.liked();
                    if (found[0] == 0 || liked > found[2]) {
                        found[1] = w.digits();
                        found[2] = liked;
                    }
                    found[0]++;
                }
                return;
            }
            for (int b = -1; b < 5; b++) {
                if (b == -1 || w.inside(b).size() < w.buildings.get(b).room) {
                    w.stones.get(p).in = b;
                    ways(w, p + 1, peaceOnly, found);
                }
                w.stones.get(p).in = -1;
            }
        }
    }

    World w = new World();
    World kept;
    final List<Law> texts = new ArrayList<>();
    StringBuilder tape = new StringBuilder();
    final int[][] rows = new int[4][];
    final int[] sorts = new int[4];

    Model() {
        for (int b = 0; b < 5; b++) {
            w.buildings.add(new Building(b));
        }
        texts.add(new Parse("likes 99 - far ; wants weight ; goes 9 ;").law());
        w.law = texts.get(0);
    }

    private static boolean within(int v, int least, int most) {
        return v >= least && v <= most;
    }

    private boolean stone(int p) {
        return within(p, 0, w.stones.size() - 1);
    }

    int count(int what) {
        int[] all = {w.stones.size(), w.year, w.out(), texts.size(), texts.indexOf(w.law), tape.length()};
        return within(what, 0, 5) ? all[what] : -2;
    }

    int dawn(int v) {
        if (!within(v, 0, 999)) {
            return -2;
        }
        int was = w.year;
        w.year = v;
        return was;
    }

    int build(int b, int what, int v) {
        if (!within(b, 0, 4)) {
            return -5;
        }
        if (!within(what, 0, 3) || !within(v, what == 1 ? w.inside(b).size() : 0, what == 1 ? 5 : 99)) {
            return -7;
        }
        int was = site(b, what);
        Building house = w.buildings.get(b);
        if (what == 0) {
            house.place = v;
            for (int p : w.inside(b)) {
                w.stones.get(p).at = v;
            }
        } else if (what == 1) {
            house.room = v;
        } else if (what == 2) {
            house.vain = v;
        } else {
            house.built = v;
        }
        return was;
    }

    int site(int b, int what) {
        if (!within(b, 0, 4)) {
            return -5;
        }
        Building house = w.buildings.get(b);
        int bits = 0;
        for (int p : w.inside(b)) {
            bits += 1 << p;
        }
        int[] all = {house.place, house.room, house.vain, house.built, bits};
        return within(what, 0, 4) ? all[what] : -7;
    }

    int feed(int n, int... bytes) {
        for (int v : bytes) {
            if (!within(v, 0, 255)) {
                return -2;
            }
        }
        if (!within(n, 1, 5)) {
            return -2;
        }
        if (tape.length() + n > 160) {
            return -4;
        }
        for (int i = 0; i < n; i++) {
            tape.append((char) bytes[i]);
        }
        return tape.length();
    }

    int text() {
        if (texts.size() == 6) {
            return -4;
        }
        String text = tape.toString();
        tape = new StringBuilder();
        try {
            texts.add(new Parse(text).law());
            return texts.size() - 1;
        } catch (Fault fault) {
            return -100 - fault.place;
        }
    }

    int force(int t) {
        if (!within(t, 0, texts.size() - 1)) {
            return -2;
        }
        int was = texts.indexOf(w.law);
        w.law = texts.get(t);
        return was;
    }

    int asks(int part, int p, int b) {
        if (!within(part, 0, 2) || !stone(p) || !within(b, -1, 4)) {
            return -1000;
        }
        return w.stones.get(p).says(part, w, b == -1 ? null : w.buildings.get(b));
    }

    int stone(int kindMore, int where, int heavy) {
        if (!within(kindMore, 0, 59) || !within(where, 0, 99) || !within(heavy, 0, 99)) {
            return -2;
        }
        if (w.stones.size() == 5) {
            return -4;
        }
        Stone s = Stone.of(kindMore / 10);
        s.more = kindMore % 10;
        s.at = where;
        s.weight = heavy;
        w.stones.add(s);
        return w.stones.size() - 1;
    }

    int put(int p, int what, int v) {
        if (!stone(p)) {
            return -5;
        }
        if (!within(what, 0, 1) || !within(v, 0, 99)) {
            return -7;
        }
        Stone s = w.stones.get(p);
        int was = what == 0 ? s.at : s.weight;
        if (what == 0) {
            s.at = v;
            s.in = -1;
        } else {
            s.weight = v;
        }
        return was;
    }

    int told(int p, int what) {
        if (!stone(p)) {
            return -5;
        }
        Stone s = w.stones.get(p);
        int[] all = {s.at, s.weight, s.in, s.kind, s.more, w.wish(p, 0), s.goes(w)};
        return within(what, 0, 6) ? all[what] : -7;
    }

    int love(int p, int b, int what) {
        if (!stone(p) || !within(b, 0, 4)) {
            return -5000;
        }
        return what == 0 ? w.likes(p, b) : what == 1 ? w.wanted(p, b) : -7000;
    }

    int year() {
        return w.year == 999 ? -3 : w.pass();
    }

    int run(int n, int what) {
        if (!within(n, 0, 40) || what != 0 && what != 1 && !within(what, 10, 9 + w.stones.size())) {
            return -2;
        }
        World t = w.copy();
        for (int i = 0; i < n; i++) {
            t.pass();
        }
        return what == 0 ? t.digits() : what == 1 ? t.out() : t.stones.get(what - 10).at;
    }

    private static int till(World t, int p, int b) {
        for (int k = 0; k <= 60; k++) {
            int in = t.stones.get(p).in;
            if (b == -1 && in != -1 || b != -1 && in == b) {
                return k;
            }
            t.pass();
        }
        return -1;
    }

    int when(int p, int what) {
        if (!stone(p)) {
            return -5;
        }
        return within(what, -1, 4) ? till(w.copy(), p, what) : -7;
    }

    int peace(int what) {
        return what == 0 ? w.against() : what == 1 ? w.liked() : what == 2 ? w.wantedSum() : -100000;
    }

    int court(int what) {
        if (!within(what, 0, 2)) {
            return -100000;
        }
        World t = w.courted();
        return what == 0 ? t.digits() : what == 1 ? t.liked() : t.wantedSum();
    }

    int all(int what) {
        if (!within(what, 0, 4)) {
            return -100000;
        }
        int[] found = w.ways(what < 3);
        return what < 3 ? found[what] : found[what - 2];
    }

    int annex(int what) {
        if (!within(what, 0, 1)) {
            return -100000;
        }
        int best = -1;
        int most = Integer.MIN_VALUE;
        for (int b = 0; b < 5; b++) {
            World t = w.copy();
            t.buildings.get(b).room++;
            int liked = t.courted().liked();
            if (liked > most) {
                best = b;
                most = liked;
            }
        }
        return what == 0 ? best : most;
    }

    int cart(int p, int what) {
        if (!stone(p)) {
            return -5;
        }
        if (!within(what, 0, 1)) {
            return -7;
        }
        int best = -1;
        int fewest = -1;
        for (int place = 0; place < 100; place++) {
            World t = w.copy();
            t.stones.get(p).at = place;
            t.stones.get(p).in = -1;
            int years = till(t, p, -1);
            if (years >= 0 && (fewest == -1 || years < fewest)) {
                best = place;
                fewest = years;
            }
        }
        return what == 0 ? best : fewest;
    }

    private static long lowest(int above, int below, int part) {
        for (int d = below; d > 1; d--) {
            if (above % d == 0 && below % d == 0) {
                return (part == 0 ? above : below) / d;
            }
        }
        return part == 0 ? above : below;
    }

    long share(int part) {
        int above = 0;
        int below = 0;
        for (Stone s : w.stones) {
            above += s.in == -1 ? 0 : s.weight;
            below += s.weight;
        }
        return below == 0 || !within(part, 0, 1) ? NO : lowest(above, below, part);
    }

    private static int otherwise(World t, int p, int[] row) {
        for (int i = 0; i < row.length; i++) {
            t.pass();
            if (t.stones.get(p).at != row[i]) {
                return i;
            }
        }
        return -1;
    }

    private int refused(int s) {
        if (!within(s, 0, 3)) {
            return -2;
        }
        return rows[s] == null ? -11 : rows[s].length > 20 ? -2 : 0;
    }

    private int refused(int s, int p) {
        int refused = refused(s);
        return refused != 0 ? refused : stone(p) ? 0 : -5;
    }

    int judge(int s, int p) {
        int refused = refused(s, p);
        return refused != 0 ? refused : otherwise(w.copy(), p, rows[s]);
    }

    int kinds(int s, int p, int sort) {
        int refused = refused(s, p);
        if (refused != 0) {
            return refused;
        }
        if (!within(sort, 0, 1)) {
            return -7;
        }
        int bits = 0;
        for (int v = 0; v < (sort == 0 ? 6 : 10); v++) {
            World t = w.copy();
            if (sort == 0) {
                t.stones.set(p, t.stones.get(p).as(v));
            } else {
                t.stones.get(p).more = v;
            }
            bits |= otherwise(t, p, rows[s]) == -1 ? 1 << v : 0;
        }
        return bits;
    }

    int states(int s, int p, int sort, int what) {
        int refused = refused(s, p);
        if (refused != 0) {
            return refused;
        }
        if (!within(sort, 0, 1) || !within(what, 0, 1)) {
            return -7;
        }
        List<Integer> good = new ArrayList<>();
        for (int v = 0; v < 100; v++) {
            World t = w.copy();
            if (sort == 0) {
                t.stones.get(p).at = v;
            } else {
                t.stones.get(p).weight = v;
            }
            if (otherwise(t, p, rows[s]) == -1) {
                good.add(v);
            }
        }
        return what == 0 ? good.size() : good.isEmpty() ? -1 : good.get(0);
    }

    int whose(int s) {
        int refused = refused(s);
        if (refused != 0) {
            return refused;
        }
        int bits = 0;
        for (int p = 0; p < w.stones.size(); p++) {
            bits |= otherwise(w.copy(), p, rows[s]) == -1 ? 1 << p : 0;
        }
        return bits;
    }

    int laws(int s, int p) {
        int refused = refused(s, p);
        if (refused != 0) {
            return refused;
        }
        int bits = 0;
        for (int t = 0; t < texts.size(); t++) {
            World other = w.copy();
            other.law = texts.get(t);
            bits |= otherwise(other, p, rows[s]) == -1 ? 1 << t : 0;
        }
        return bits;
    }

    int film(int s, int p, int n) {
        if (!within(s, 0, 3)) {
            return -2;
        }
        if (!stone(p)) {
            return -5;
        }
        if (!within(n, 0, 20)) {
            return -7;
        }
        World t = w.copy();
        rows[s] = new int[n];
        sorts[s] = 0;
        for (int i = 0; i < n; i++) {
            t.pass();
            rows[s][i] = t.stones.get(p).at;
        }
        return n;
    }

    private World weather(int seed) {
        World t = w.copy();
        long[] lots = new long[16];
        for (int i = 0; i < 16; i++) {
            lots[i] = (i == 0 ? seed + 1 : lots[i - 1]) * 48271L % 2147483647L;
        }
        for (int i = 0; i < 8; i++) {
            int p = (int) (lots[2 * i] % 5);
            if (p < t.stones.size()) {
                t.stones.get(p).in = -1;
                t.stones.get(p).at = (int) (lots[2 * i + 1] % 100);
            }
            t.pass();
        }
        return t;
    }

    int drawn(int seed, int what) {
        if (!within(seed, 0, 99999) || !within(what, 0, 1)) {
            return -2;
        }
        return what == 0 ? weather(seed).digits() : weather(seed).out();
    }

    long odds(int seed, int seeds, int most, int part) {
        if (!within(seed, 0, 99999) || !within(seeds, 1, 40) || !within(most, 0, 5) || !within(part, 0, 1)) {
            return NO;
        }
        int good = 0;
        for (int i = 0; i < seeds; i++) {
            good += weather(seed + i).out() <= most ? 1 : 0;
        }
        return lowest(good, seeds, part);
    }

    int image() {
        kept = w.copy();
        return kept.stones.size();
    }

    int back() {
        if (kept == null) {
            return -3;
        }
        w = kept.copy();
        return w.stones.size();
    }

    int sheet(int s, int sort, int n) {
        if (!within(s, 0, 3) || !within(sort, -1, 2) || sort != -1 && n > 40) {
            return -2;
        }
        if (sort != -1 && n < 0) {
            return -14;
        }
        rows[s] = sort == -1 ? null : new int[n];
        sorts[s] = sort;
        return 1;
    }

    int cell(int s, int i, int v) {
        if (!within(s, 0, 3)) {
            return -2;
        }
        if (rows[s] == null) {
            return -11;
        }
        if (!within(i, 0, rows[s].length - 1)) {
            return -12;
        }
        rows[s][i] = sorts[s] == 0 ? (byte) v : sorts[s] == 1 ? (short) v : v;
        return 1;
    }

    int copy(int s, int i, int other, int j, int n) {
        if (!within(s, 0, 3) || !within(other, 0, 3)) {
            return -2;
        }
        if (rows[s] == null || rows[other] == null) {
            return -11;
        }
        if (sorts[s] != sorts[other]) {
            return -13;
        }
        if (i < 0 || j < 0 || n < 0 || (long) i + n > rows[s].length || (long) j + n > rows[other].length) {
            return -12;
        }
        int[] from = Arrays.copyOf(rows[s], rows[s].length);
        for (int k = 0; k < n; k++) {
            rows[other][j + k] = from[i + k];
        }
        return n;
    }

    int stonesBy(int s, int sort, int from, int n) {
        if (!within(s, 0, 3) || !within(sort, 0, 2) || !within(n, 0, 5)) {
            return -2;
        }
        if (rows[s] == null) {
            return -11;
        }
        if (sorts[s] != sort) {
            return -13;
        }
        int came = 0;
        for (long i = from; i < from + 3L * n; i += 3) {
            if (i < 0 || i + 2 >= rows[s].length) {
                return -12;
            }
            int k = (int) i;
            came += stone(rows[s][k], rows[s][k + 1], rows[s][k + 2]) >= 0 ? 1 : 0;
        }
        return came;
    }

    int taken(int i, int kind) {
        if (!within(kind, 0, 6)) {
            return -2;
        }
        if (!within(i, 0, 9)) {
            return -12;
        }
        if (i > 4) {
            return kind == 6 ? w.buildings.get(i - 5).built : -13;
        }
        if (!stone(i)) {
            return -11;
        }
        Class<?>[] classes = {Stone.class, Lintel.class, Slab.class, Step.class, Convert.class, White.class};
        return kind < 6 && classes[kind].isInstance(w.stones.get(i)) ? i : -13;
    }
}

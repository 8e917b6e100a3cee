import java.util.ArrayList;
import java.util.Arrays;
import java.util.HashSet;
import java.util.List;
import java.util.Set;

/**
 * Every refusal of every call: each argument at its ends, just beyond them, and far off, and any two of them so at once;
 * of several refusals the first one told; refused, a call changes nothing; and what is asked changes nothing.
 */
public final class RefusalsTest {
    private static final Due DUE = new Due("RefusalsTest");
    private static final Scene[] SCENES = {Scene.NEW, Scene.AT_WORK, Scene.FULL};
    private static final int LEAST = Integer.MIN_VALUE;
    private static final int MOST = Integer.MAX_VALUE;
    private static final int[] STONE = {LEAST, -1, 0, 1, 2, 3, 4, 5, MOST};
    private static final int[] BUILDING = around(0, 4, 1);
    private static final int[] SHEET = {LEAST, -1, 0, 1, 2, 3, 4, MOST};
    private static final int[] PLACE = {LEAST, -1, 0, 2, 3, 4, 5, 20, 21, 40, MOST - 2, MOST};

    interface Answer {
        long of(StonesChoose x, int[] a);
    }

    interface Refused {
        boolean is(Scene s, int[] a);
    }

    private static final class Rule {
        final Refused refused;
        final long answer;
        boolean changes;
        int fired;

        Rule(long answer, Refused refused) {
            this.answer = answer;
            this.refused = refused;
        }
    }

    private final String name;
    private final Answer call;
    /** Whether it asks, so that it changes nothing when it is not refused either. */
    private boolean asks;
    private final List<int[]> tries = new ArrayList<>();
    private final List<Integer> usual = new ArrayList<>();
    private final List<Rule> rules = new ArrayList<>();
    private final Set<String> tried = new HashSet<>();

    private RefusalsTest(String name, Answer call) {
        this.name = name;
        this.call = call;
    }

    public static void main(String[] args) {
        scenes();
        buildings();
        law();
        stones();
        years();
        peace();
        toldYears();
        weather();
        sheets();
        host();
        DUE.end();
    }

    /** Each scene is as it says of itself. */
    private static void scenes() {
        for (Scene s : SCENES) {
            StonesChoose x = s.make();
            DUE.is(s.name + ", stones", x.count(0), s.stones);
            DUE.is(s.name + ", year", x.count(1), s.year);
            DUE.is(s.name + ", texts", x.count(3), s.texts);
            DUE.is(s.name + ", tape", x.count(5), s.tape);
            for (int b = 0; b < 5; b++) {
                DUE.is(s.name + ", housed", Integer.bitCount(x.site(b, 4)), s.housed[b]);
            }
        }
    }

    // ---- how a call is described

    private static RefusalsTest changing(String name, Answer call) {
        return new RefusalsTest(name, call);
    }

    private static RefusalsTest asking(String name, Answer call) {
        RefusalsTest test = new RefusalsTest(name, call);
        test.asks = true;
        return test;
    }

    /** One more argument: a value that is usually not refused, and all that are tried. */
    private RefusalsTest arg(int usually, int... all) {
        usual.add(usually);
        tries.add(all);
        return this;
    }

    private RefusalsTest no(long answer, Refused refused) {
        rules.add(new Rule(answer, refused));
        return this;
    }

    /** Likewise, but what stood ahead of what was refused has come. */
    private RefusalsTest noBehind(long answer, Refused refused) {
        no(answer, refused);
        rules.get(rules.size() - 1).changes = true;
        return this;
    }

    private static int[] around(int least, int most, int... others) {
        int[] all = new int[others.length + 6];
        System.arraycopy(new int[] {LEAST, least - 1, least, most, most + 1, MOST}, 0, all, 0, 6);
        System.arraycopy(others, 0, all, 6, others.length);
        return all;
    }

    private static boolean out(int v, int least, int most) {
        return v < least || v > most;
    }

    private static boolean noStone(Scene s, int p) {
        return out(p, 0, s.stones - 1);
    }

    // ---- how it is tried

    private void run() {
        for (Scene scene : SCENES) {
            String was = Scene.look(scene.make());
            int n = usual.size();
            int[] a = new int[n];
            for (int i = 0; i < n; i++) {
                a[i] = usual.get(i);
            }
            one(scene, was, a);
            for (int i = 0; i < n; i++) {
                for (int v : tries.get(i)) {
                    a[i] = v;
                    one(scene, was, a);
                    for (int k = i + 1; k < n; k++) {
                        for (int w : tries.get(k)) {
                            a[k] = w;
                            one(scene, was, a);
                        }
                        a[k] = usual.get(k);
                    }
                }
                a[i] = usual.get(i);
            }
        }
        for (Rule rule : rules) {
            DUE.is(name + " has been refused by " + rule.answer, rule.fired > 0 ? 1 : 0, 1);
        }
    }

    private void one(Scene scene, String was, int[] a) {
        String told = name + Arrays.toString(a) + ", " + scene.name;
        if (!tried.add(told)) {
            return;
        }
        Rule due = null;
        for (int i = 0; i < rules.size() && due == null; i++) {
            due = rules.get(i).refused.is(scene, a) ? rules.get(i) : null;
        }
        if (due == null && !asks) {
            return;
        }
        StonesChoose x = scene.make();
        long got = call.of(x, a);
        if (due != null) {
            due.fired++;
            DUE.is(told, got, due.answer);
        }
        if (due == null || !due.changes) {
            DUE.is(told + " changes nothing", Scene.look(x).equals(was) ? 1 : 0, 1);
        }
    }

    // ---- the calls

    private static void buildings() {
        asking("2 count", (x, a) -> x.count(a[0])).arg(0, around(0, 5, 1, 2, 3, 4))
            .no(-2, (s, a) -> out(a[0], 0, 5)).run();
        changing("3 dawn", (x, a) -> x.dawn(a[0])).arg(0, around(0, 999))
            .no(-2, (s, a) -> out(a[0], 0, 999)).run();
        changing("4 build", (x, a) -> x.build(a[0], a[1], a[2])).arg(1, BUILDING).arg(1, around(0, 3, 1, 2))
            .arg(3, around(0, 99, 1, 2, 5, 6))
            .no(-5, (s, a) -> out(a[0], 0, 4))
            .no(-7, (s, a) -> out(a[1], 0, 3))
            .no(-7, (s, a) -> a[1] != 1 && out(a[2], 0, 99))
            .no(-7, (s, a) -> a[1] == 1 && out(a[2], 0, 5))
            .no(-7, (s, a) -> a[1] == 1 && a[2] < s.housed[a[0]]).run();
        asking("5 site", (x, a) -> x.site(a[0], a[1])).arg(1, BUILDING).arg(0, around(0, 4, 1, 2, 3))
            .no(-5, (s, a) -> out(a[0], 0, 4))
            .no(-7, (s, a) -> out(a[1], 0, 4)).run();
    }

    private static void law() {
        RefusalsTest feed = changing("6 feed", (x, a) -> x.feed(a[0], a[1], a[2], a[3], a[4], a[5]))
            .arg(1, around(1, 5, 2, 3));
        for (int i = 0; i < 5; i++) {
            feed.arg(7, around(0, 255));
        }
        feed.no(-2, (s, a) -> out(a[0], 1, 5));
        for (int i = 1; i <= 5; i++) {
            int which = i;
            feed.no(-2, (s, a) -> out(a[which], 0, 255));
        }
        feed.no(-4, (s, a) -> s.tape + a[0] > 160).run();
        changing("7 text", (x, a) -> x.text()).no(-4, (s, a) -> s.texts == 6).run();
        changing("8 force", (x, a) -> x.force(a[0])).arg(0, around(0, 2, 1, 4, 5, 6))
            .no(-2, (s, a) -> out(a[0], 0, s.texts - 1)).run();
        asking("9 asks", (x, a) -> x.asks(a[0], a[1], a[2])).arg(0, around(0, 2, 1)).arg(0, STONE)
            .arg(1, around(-1, 4, 0))
            .no(-1000, (s, a) -> out(a[0], 0, 2))
            .no(-1000, (s, a) -> noStone(s, a[1]))
            .no(-1000, (s, a) -> out(a[2], -1, 4)).run();
    }

    private static void stones() {
        changing("10 stone", (x, a) -> x.stone(a[0], a[1], a[2])).arg(12, around(0, 59)).arg(3, around(0, 99))
            .arg(3, around(0, 99))
            .no(-2, (s, a) -> out(a[0], 0, 59))
            .no(-2, (s, a) -> out(a[1], 0, 99))
            .no(-2, (s, a) -> out(a[2], 0, 99))
            .no(-4, (s, a) -> s.stones == 5).run();
        changing("11 put", (x, a) -> x.put(a[0], a[1], a[2])).arg(0, STONE).arg(0, around(0, 1)).arg(4, around(0, 99))
            .no(-5, (s, a) -> noStone(s, a[0]))
            .no(-7, (s, a) -> out(a[1], 0, 1))
            .no(-7, (s, a) -> out(a[2], 0, 99)).run();
        asking("12 told", (x, a) -> x.told(a[0], a[1])).arg(0, STONE).arg(0, around(0, 6, 1, 2, 3, 4, 5))
            .no(-5, (s, a) -> noStone(s, a[0]))
            .no(-7, (s, a) -> out(a[1], 0, 6)).run();
        asking("13 love", (x, a) -> x.love(a[0], a[1], a[2])).arg(0, STONE).arg(0, BUILDING).arg(0, around(0, 1))
            .no(-5000, (s, a) -> noStone(s, a[0]))
            .no(-5000, (s, a) -> out(a[1], 0, 4))
            .no(-7000, (s, a) -> out(a[2], 0, 1)).run();
    }

    private static void years() {
        changing("14 year", (x, a) -> x.year()).no(-3, (s, a) -> s.year == 999).run();
        asking("15 run", (x, a) -> x.run(a[0], a[1])).arg(2, around(0, 40))
            .arg(0, LEAST, LEAST + 9, LEAST + 10, -1, 0, 1, 2, 9, 10, 11, 12, 13, 14, 15, 16, MOST)
            .no(-2, (s, a) -> out(a[0], 0, 40))
            .no(-2, (s, a) -> out(a[1], 0, 1) && out(a[1], 10, 14))
            .no(-2, (s, a) -> a[1] >= 10 && noStone(s, a[1] - 10)).run();
        asking("16 when", (x, a) -> x.when(a[0], a[1])).arg(0, STONE).arg(-1, around(-1, 4, 0))
            .no(-5, (s, a) -> noStone(s, a[0]))
            .no(-7, (s, a) -> out(a[1], -1, 4)).run();
    }

    private static void peace() {
        asking("17 peace", (x, a) -> x.peace(a[0])).arg(0, around(0, 2, 1)).no(-100000, (s, a) -> out(a[0], 0, 2)).run();
        asking("18 court", (x, a) -> x.court(a[0])).arg(0, around(0, 2, 1)).no(-100000, (s, a) -> out(a[0], 0, 2)).run();
        asking("19 all", (x, a) -> x.all(a[0])).arg(0, around(0, 4, 1, 2, 3)).no(-100000, (s, a) -> out(a[0], 0, 4)).run();
        asking("20 annex", (x, a) -> x.annex(a[0])).arg(0, around(0, 1)).no(-100000, (s, a) -> out(a[0], 0, 1)).run();
        asking("21 cart", (x, a) -> x.cart(a[0], a[1])).arg(0, STONE).arg(0, around(0, 1))
            .no(-5, (s, a) -> noStone(s, a[0]))
            .no(-7, (s, a) -> out(a[1], 0, 1)).run();
        asking("22 share", (x, a) -> x.share(a[0])).arg(0, around(0, 1))
            .no(StonesChoose.NO, (s, a) -> out(a[0], 0, 1))
            .no(StonesChoose.NO, (s, a) -> s.stones == 0).run();
    }

    private RefusalsTest noTold() {
        return arg(0, SHEET)
            .no(-2, (s, a) -> out(a[0], 0, 3))
            .no(-11, (s, a) -> s.sorts[a[0]] < 0)
            .no(-2, (s, a) -> s.sizes[a[0]] > 20);
    }

    private RefusalsTest noToldOfAStone() {
        return noTold().arg(0, STONE).no(-5, (s, a) -> noStone(s, a[1]));
    }

    private static void toldYears() {
        asking("23 judge", (x, a) -> x.judge(a[0], a[1])).noToldOfAStone().run();
        asking("24 kinds", (x, a) -> x.kinds(a[0], a[1], a[2])).noToldOfAStone().arg(0, around(0, 1))
            .no(-7, (s, a) -> out(a[2], 0, 1)).run();
        asking("25 states", (x, a) -> x.states(a[0], a[1], a[2], a[3])).noToldOfAStone()
            .arg(0, around(0, 1)).arg(0, around(0, 1))
            .no(-7, (s, a) -> out(a[2], 0, 1))
            .no(-7, (s, a) -> out(a[3], 0, 1)).run();
        asking("26 whose", (x, a) -> x.whose(a[0])).noTold().run();
        asking("27 laws", (x, a) -> x.laws(a[0], a[1])).noToldOfAStone().run();
        changing("28 film", (x, a) -> x.film(a[0], a[1], a[2])).arg(0, SHEET).arg(0, STONE).arg(3, around(0, 20))
            .no(-2, (s, a) -> out(a[0], 0, 3))
            .no(-5, (s, a) -> noStone(s, a[1]))
            .no(-7, (s, a) -> out(a[2], 0, 20)).run();
    }

    private static void weather() {
        asking("29 drawn", (x, a) -> x.drawn(a[0], a[1])).arg(5, around(0, 99999)).arg(0, around(0, 1))
            .no(-2, (s, a) -> out(a[0], 0, 99999))
            .no(-2, (s, a) -> out(a[1], 0, 1)).run();
        asking("30 odds", (x, a) -> x.odds(a[0], a[1], a[2], a[3])).arg(5, around(0, 99999)).arg(2, around(1, 40))
            .arg(3, around(0, 5)).arg(0, around(0, 1))
            .no(StonesChoose.NO, (s, a) -> out(a[0], 0, 99999))
            .no(StonesChoose.NO, (s, a) -> out(a[1], 1, 40))
            .no(StonesChoose.NO, (s, a) -> out(a[2], 0, 5))
            .no(StonesChoose.NO, (s, a) -> out(a[3], 0, 1)).run();
        changing("32 back", (x, a) -> x.back()).no(-3, (s, a) -> !s.hasImage).run();
    }

    private static void sheets() {
        changing("33 sheet", (x, a) -> x.sheet(a[0], a[1], a[2])).arg(1, SHEET).arg(1, around(-1, 2, 0, 1))
            .arg(4, around(0, 40))
            .no(-2, (s, a) -> out(a[0], 0, 3))
            .no(-2, (s, a) -> out(a[1], -1, 2))
            .no(-2, (s, a) -> a[1] != -1 && a[2] > 40)
            .no(-14, (s, a) -> a[1] != -1 && a[2] < 0).run();
        changing("34 cell", (x, a) -> x.cell(a[0], a[1], a[2])).arg(1, SHEET).arg(1, PLACE).arg(4, LEAST, -1, 0, MOST)
            .no(-2, (s, a) -> out(a[0], 0, 3))
            .no(-11, (s, a) -> s.sorts[a[0]] < 0)
            .no(-12, (s, a) -> out(a[1], 0, s.sizes[a[0]] - 1)).run();
        changing("35 copy", (x, a) -> x.copy(a[0], a[1], a[2], a[3], a[4])).arg(0, SHEET).arg(1, PLACE).arg(3, SHEET)
            .arg(2, PLACE).arg(1, around(0, 3, 1, 2))
            .no(-2, (s, a) -> out(a[0], 0, 3))
            .no(-2, (s, a) -> out(a[2], 0, 3))
            .no(-11, (s, a) -> s.sorts[a[0]] < 0)
            .no(-11, (s, a) -> s.sorts[a[2]] < 0)
            .no(-13, (s, a) -> s.sorts[a[0]] != s.sorts[a[2]])
            .no(-12, (s, a) -> a[4] < 0)
            .no(-12, (s, a) -> out(a[1], 0, s.sizes[a[0]]) || a[1] + (long) a[4] > s.sizes[a[0]])
            .no(-12, (s, a) -> out(a[3], 0, s.sizes[a[2]]) || a[3] + (long) a[4] > s.sizes[a[2]]).run();
    }

    private static void host() {
        changing("36 stonesBy", (x, a) -> x.stonesBy(a[0], a[1], a[2], a[3])).arg(0, SHEET).arg(0, around(0, 2, 1))
            .arg(0, PLACE).arg(1, around(0, 5, 2, 3))
            .no(-2, (s, a) -> out(a[0], 0, 3))
            .no(-2, (s, a) -> out(a[1], 0, 2))
            .no(-2, (s, a) -> out(a[3], 0, 5))
            .no(-11, (s, a) -> s.sorts[a[0]] < 0)
            .no(-13, (s, a) -> s.sorts[a[0]] != a[1])
            .no(-12, (s, a) -> a[3] > 0 && out(a[2], 0, s.sizes[a[0]] - 3))
            .noBehind(-12, (s, a) -> a[3] > 0 && a[2] + 3L * a[3] > s.sizes[a[0]]).run();
        asking("37 taken", (x, a) -> x.taken(a[0], a[1])).arg(0, around(0, 9, 1, 2, 3, 4, 5))
            .arg(0, around(0, 6, 1, 2, 3, 4, 5))
            .no(-2, (s, a) -> out(a[1], 0, 6))
            .no(-12, (s, a) -> out(a[0], 0, 9))
            .no(-11, (s, a) -> a[0] < 5 && noStone(s, a[0]))
            .no(-13, (s, a) -> a[0] < 5 && a[1] == 6)
            .no(-13, (s, a) -> a[0] >= 5 && a[1] != 6).run();
    }
}

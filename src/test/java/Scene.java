/**
 * An object with a known past, what of it the refusals depend on, and a look at all that can be seen of it.
 * Making one and looking at it take fewer than 512 calls together.
 */
final class Scene {
    /** Nothing has been done yet. */
    static final Scene NEW = new Scene("new", 0, 1, 0, 0);
    /** Three stones, two of them in building 1, which has room for three; an image of two of them. */
    static final Scene AT_WORK = new Scene("at work", 3, 3, 7, 2);
    /** Five stones, six texts, two bytes of room on the tape, and the last year. */
    static final Scene FULL = new Scene("full", 5, 6, 158, 999);
    /** In a look: every sheet shown number by number is copied here, as this one is missing in each scene. */
    static final int MISSING_SHEET = 2;
    private static final int STILL_LAW = 2;

    final String name;
    final int stones;
    final int texts;
    final int tape;
    final int year;
    final boolean hasImage;
    /** How many are in each building; sort (-1: missing) and size of each sheet. */
    final int[] housed;
    final int[] sorts;
    final int[] sizes;

    private Scene(String name, int stones, int texts, int tape, int year) {
        this.name = name;
        this.stones = stones;
        this.texts = texts;
        this.tape = tape;
        this.year = year;
        boolean isNew = stones == 0;
        hasImage = !isNew;
        housed = isNew ? new int[5] : new int[] {0, 2, 0, 0, 0};
        sorts = isNew ? new int[] {-1, -1, -1, -1} : new int[] {0, 1, -1, 0};
        sizes = isNew ? new int[4] : new int[] {3, 5, 0, 21};
    }

    StonesChoose make() {
        StonesChoose x = new StonesChoose();
        if (stones == 0) {
            return x;
        }
        Due.text(x, "likes 99-far+vain;wants weight-far;goes 7;");
        Due.text(x, "likes 0;wants 0;goes 0;");
        x.build(1, 1, 3);
        x.build(2, 2, 9);
        x.stone(7, 20, 30);
        x.image();
        x.stone(23, 15, 60);
        x.year();
        x.image();
        x.build(4, 3, 12);
        x.force(1);
        x.year();
        x.stone(34, 77, 9);
        sheets(x);
        if (stones == 5) {
            x.stone(48, 5, 44);
            x.stone(51, 60, 1);
            for (int t = 3; t < 6; t++) {
                Due.text(x, "likes " + t + ";wants 0;goes 1;");
            }
            x.dawn(999);
        }
        while (x.count(5) < tape - 4) {
            x.feed(5, ' ', ' ', ' ', ' ', ' ');
        }
        while (x.count(5) < tape) {
            x.feed(1, 'x', 0, 0, 0, 0);
        }
        return x;
    }

    private static void sheets(StonesChoose x) {
        Due.row(x, 0, 0, 20, 15, 70);
        Due.row(x, 1, 1, 5, 60, 40, 13, 99);
        x.sheet(3, 0, 21);
        x.cell(3, 20, 44);
    }

    /** All that can be seen of an object; it is spent by that. */
    static String look(StonesChoose x) {
        StringBuilder all = new StringBuilder();
        world(x, all);
        for (int p = 0; p < 5; p++) {
            for (int b = 0; b < 5; b++) {
                say(all, x.love(p, b, 0));
                say(all, x.love(p, b, 1));
            }
        }
        say(all, x.text());
        say(all, x.count(3));
        int law = x.count(4);
        for (int t = 0; t < 6; t++) {
            x.force(t);
            for (int part = 0; part < 3; part++) {
                say(all, x.asks(part, 0, 2));
            }
        }
        x.force(law);
        for (int s = 0; s < 4; s++) {
            row(x, s, all);
        }
        say(all, x.back());
        world(x, all);
        return all.toString();
    }

    private static void say(StringBuilder all, long v) {
        all.append(v).append(' ');
    }

    private static void world(StonesChoose x, StringBuilder all) {
        for (int what = 0; what < 6; what++) {
            say(all, x.count(what));
        }
        for (int b = 0; b < 5; b++) {
            for (int what = 0; what < 5; what++) {
                say(all, x.site(b, what));
            }
        }
        for (int p = 0; p < 5; p++) {
            for (int what = 0; what < 7; what++) {
                say(all, x.told(p, what));
            }
        }
    }

    /** Sort and size of a sheet, and its numbers, each shown as the place at which a stone must stay to be told by it. */
    private static void row(StonesChoose x, int s, StringBuilder all) {
        int sort = -1;
        for (int k = 0; k < 3; k++) {
            sort = x.stonesBy(s, k, 0, 0) == 0 ? k : sort;
        }
        int size = 0;
        for (int bit = 32; bit > 0; bit /= 2) {
            size += x.copy(s, size + bit, s, size + bit, 0) == 0 ? bit : 0;
        }
        say(all, sort);
        say(all, size);
        if (s == MISSING_SHEET || sort < 0) {
            return;
        }
        x.force(STILL_LAW);
        x.put(0, 0, 0);
        x.sheet(MISSING_SHEET, sort, 1);
        for (int i = 0; i < size; i++) {
            x.copy(s, i, MISSING_SHEET, 0, 1);
            say(all, x.states(MISSING_SHEET, 0, 0, 1));
        }
    }
}

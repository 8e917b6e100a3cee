/** Promises 33 to 37: sheet, cell, copy, stonesBy, taken. */
public final class HostTest {
    private static final Due DUE = new Due("HostTest");

    public static void main(String[] args) {
        sheet();
        sheetRefuses();
        cell();
        cellRefuses();
        copy();
        copyOverItself();
        copyRefuses();
        stonesBy();
        stonesByInPart();
        stonesByRefuses();
        taken();
        takenRefuses();
        DUE.end();
    }

    private static void sheet() {
        StonesChoose x = new StonesChoose();
        for (int s = 0; s < 4; s++) {
            DUE.is("33 a row", x.sheet(s, s % 3, 3 + s), 1);
            DUE.is("33 its last", x.cell(s, 2 + s, 1), 1);
            DUE.is("33 behind it", x.cell(s, 3 + s, 1), -12);
        }
        DUE.is("33 40", x.sheet(0, 2, 40), 1);
        DUE.is("33 the last of 40", x.cell(0, 39, 1), 1);
        DUE.is("33 0", x.sheet(0, 1, 0), 1);
        DUE.is("33 0 holds nothing", x.cell(0, 0, 1), -12);
        DUE.is("33 missing", x.sheet(0, -1, 7), 1);
        DUE.is("33 missing", x.cell(0, 0, 1), -11);
        DUE.is("33 missing, n below 0", x.sheet(1, -1, -9), 1);
        DUE.is("33 missing, n above 40", x.sheet(2, -1, 99), 1);
        DUE.is("33 missing", x.cell(1, 0, 1), -11);
        DUE.is("33 missing", x.cell(2, 0, 1), -11);
        DUE.is("33 missing again", x.sheet(2, -1, 99), 1);
        x.sheet(3, 0, 2);
        x.stone(0, 0, 5);
        DUE.is("33 all 0", x.judge(3, 0), -1);
        x.cell(3, 0, 9);
        DUE.is("33 one is not", x.judge(3, 0), 0);
        x.sheet(3, 2, 2);
        DUE.is("33 all 0 again", x.judge(3, 0), -1);
    }

    private static void sheetRefuses() {
        StonesChoose x = new StonesChoose();
        x.sheet(1, 0, 4);
        DUE.is("33 sheet below", x.sheet(-1, 0, 1), -2);
        DUE.is("33 sheet above", x.sheet(4, 0, 1), -2);
        DUE.is("33 sort below", x.sheet(1, -2, 1), -2);
        DUE.is("33 sort above", x.sheet(1, 3, 1), -2);
        DUE.is("33 n above", x.sheet(1, 0, 41), -2);
        DUE.is("33 n below", x.sheet(1, 0, -1), -14);
        DUE.is("33 sheet ahead of n", x.sheet(4, 0, -1), -2);
        DUE.is("33 sheet ahead of n, missing", x.sheet(4, -1, -1), -2);
        DUE.is("33 sort ahead of n", x.sheet(1, 3, -1), -2);
        DUE.is("33 nothing changed", x.cell(1, 3, 1), 1);
    }

    private static void cell() {
        StonesChoose x = new StonesChoose();
        x.stone(0, 0, 5);
        int[] sizes = {256, 65536, 0};
        for (int sort = 0; sort < 3; sort++) {
            x.sheet(0, sort, 1);
            x.put(0, 0, 20);
            DUE.is("34 becomes", x.cell(0, 0, 20), 1);
            DUE.is("34 it is", x.judge(0, 0), -1);
            DUE.is("34 the lowest bits", x.cell(0, 0, 20 + sizes[sort]), 1);
            DUE.is("34 the lowest bits are", x.judge(0, 0), -1);
            x.cell(0, 0, 20 - 3 * sizes[sort]);
            DUE.is("34 of one below 0", x.judge(0, 0), -1);
            x.cell(0, 0, 20 + 128);
            DUE.is("34 a bit more", x.judge(0, 0), 0);
            x.cell(0, 0, 20 + 32768);
            DUE.is("34 a bit more", x.judge(0, 0), sort == 0 ? -1 : 0);
            x.cell(0, 0, 20 + 65536);
            DUE.is("34 a bit more", x.judge(0, 0), sort == 2 ? 0 : -1);
        }
    }

    private static void cellRefuses() {
        StonesChoose x = new StonesChoose();
        DUE.is("34 sheet below", x.cell(-1, 0, 1), -2);
        DUE.is("34 sheet above", x.cell(4, 0, 1), -2);
        DUE.is("34 missing", x.cell(0, 0, 1), -11);
        DUE.is("34 missing ahead of outside", x.cell(0, -1, 1), -11);
        x.sheet(0, 0, 3);
        DUE.is("34 below", x.cell(0, -1, 1), -12);
        DUE.is("34 above", x.cell(0, 3, 1), -12);
        DUE.is("34 far off", x.cell(0, Integer.MAX_VALUE, 1), -12);
    }

    /** The numbers of a sheet as one, each shown by a stone: a film of nothing else tells a sheet. */
    private static void holds(String call, StonesChoose x, int s, int sort, int... numbers) {
        for (int i = 0; i < numbers.length; i++) {
            x.sheet(3, sort, 1);
            x.copy(s, i, 3, 0, 1);
            // the only stone stays where it is put, as it likes none
            x.put(0, 0, numbers[i]);
            DUE.is(call + ", number " + i, x.judge(3, 0), -1);
        }
    }

    private static StonesChoose still() {
        StonesChoose x = new StonesChoose();
        Due.text(x, "likes 0 ; wants 0 ; goes 0 ;");
        x.force(1);
        x.stone(0, 0, 0);
        return x;
    }

    private static void copy() {
        StonesChoose x = still();
        Due.row(x, 0, 1, 1, 2, 3, 4, 5);
        Due.row(x, 1, 1, 10, 20, 30);
        DUE.is("35 two", x.copy(0, 1, 1, 0, 2), 2);
        holds("35 the other", x, 1, 1, 2, 3, 30);
        holds("35 it stays", x, 0, 1, 1, 2, 3, 4, 5);
        DUE.is("35 all of the shorter", x.copy(1, 0, 0, 2, 3), 3);
        holds("35 all of the shorter", x, 0, 1, 1, 2, 2, 3, 30);
        DUE.is("35 none", x.copy(0, 0, 1, 0, 0), 0);
        DUE.is("35 none, at the ends", x.copy(0, 5, 1, 3, 0), 0);
        holds("35 none", x, 1, 1, 2, 3, 30);
        Due.row(x, 0, 2, 70, 71);
        Due.row(x, 1, 2, 72, 73);
        DUE.is("35 ints", x.copy(0, 0, 1, 1, 1), 1);
        holds("35 ints", x, 1, 2, 72, 70);
        Due.row(x, 0, 0, 80);
        Due.row(x, 2, 0, 82, 83);
        DUE.is("35 bytes", x.copy(2, 1, 0, 0, 1), 1);
        holds("35 bytes", x, 0, 0, 83);
    }

    private static void copyOverItself() {
        StonesChoose x = still();
        Due.row(x, 0, 2, 1, 2, 3, 4, 5);
        DUE.is("35 upward", x.copy(0, 0, 0, 1, 4), 4);
        holds("35 as they were", x, 0, 2, 1, 1, 2, 3, 4);
        Due.row(x, 0, 2, 1, 2, 3, 4, 5);
        DUE.is("35 downward", x.copy(0, 1, 0, 0, 4), 4);
        holds("35 as they were", x, 0, 2, 2, 3, 4, 5, 5);
    }

    private static void copyRefuses() {
        StonesChoose x = new StonesChoose();
        DUE.is("35 sheet below", x.copy(-1, 0, 0, 0, 1), -2);
        DUE.is("35 sheet above", x.copy(4, 0, 0, 0, 1), -2);
        DUE.is("35 other below", x.copy(0, 0, -1, 0, 1), -2);
        DUE.is("35 other above", x.copy(0, 0, 4, 0, 1), -2);
        DUE.is("35 both are missing", x.copy(0, 0, 1, 0, 1), -11);
        x.sheet(0, 0, 5);
        DUE.is("35 the other is missing", x.copy(0, 0, 1, 0, -1), -11);
        DUE.is("35 the first is missing", x.copy(1, 0, 0, 0, -1), -11);
        x.sheet(1, 1, 3);
        DUE.is("35 unlike", x.copy(0, 0, 1, 0, 1), -13);
        DUE.is("35 unlike ahead of outside", x.copy(0, 0, 1, 0, -1), -13);
        x.sheet(1, 0, 3);
        DUE.is("35 n below 0", x.copy(0, 0, 1, 0, -1), -12);
        DUE.is("35 i below 0", x.copy(0, -1, 1, 0, 1), -12);
        DUE.is("35 j below 0", x.copy(0, 0, 1, -1, 1), -12);
        DUE.is("35 too many for the other", x.copy(0, 0, 1, 0, 4), -12);
        DUE.is("35 too many of the first", x.copy(1, 0, 0, 0, 4), -12);
        DUE.is("35 from too far on", x.copy(0, 4, 1, 0, 2), -12);
        DUE.is("35 to too far on", x.copy(0, 0, 1, 2, 2), -12);
        DUE.is("35 none, from outside", x.copy(0, 6, 1, 0, 0), -12);
        DUE.is("35 none, to outside", x.copy(0, 0, 1, 4, 0), -12);
        int far = Integer.MAX_VALUE;
        DUE.is("35 far off", x.copy(0, far, 1, 0, 1), -12);
        DUE.is("35 far off", x.copy(0, 0, 1, far, 1), -12);
        DUE.is("35 far off", x.copy(0, 1, 1, 1, far), -12);
        DUE.is("35 far off", x.copy(0, far, 1, far, far), -12);
        DUE.is("35 far off", x.copy(0, 0, 1, 0, Integer.MIN_VALUE), -12);
    }

    private static void stonesBy() {
        StonesChoose x = new StonesChoose();
        Due.row(x, 0, 0, 99, 12, 34, 56, 59, 99, 98, 1, 2);
        DUE.is("36 none", x.stonesBy(0, 0, 0, 0), 0);
        DUE.is("36 none came", x.count(0), 0);
        DUE.is("36 two", x.stonesBy(0, 0, 1, 2), 2);
        DUE.is("36 kind", x.told(0, 3), 1);
        DUE.is("36 more", x.told(0, 4), 2);
        DUE.is("36 at", x.told(0, 0), 34);
        DUE.is("36 weight", x.told(0, 1), 56);
        DUE.is("36 kind", x.told(1, 3), 5);
        DUE.is("36 at", x.told(1, 0), 99);
        DUE.is("36 weight", x.told(1, 1), 98);
        Due.row(x, 1, 1, 60, 0, 0, 7, 100, 0, 8, 0, 100, 9, 0, 0, -1, 0, 0);
        DUE.is("36 others are left out", x.stonesBy(1, 1, 0, 5), 1);
        DUE.is("36 the one", x.told(2, 4), 9);
        Due.row(x, 2, 2, 1, 0, 0, 2, 0, 0, 3, 0, 0);
        DUE.is("36 two more, then it is full", x.stonesBy(2, 2, 0, 3), 2);
        DUE.is("36 five", x.count(0), 5);
        DUE.is("36 full", x.stonesBy(2, 2, 0, 3), 0);
        DUE.is("36 none, wherever", x.stonesBy(2, 2, 99, 0), 0);
    }

    private static void stonesByInPart() {
        StonesChoose x = new StonesChoose();
        Due.row(x, 0, 2, 1, 2, 3, 4, 5, 6, 7, 8);
        DUE.is("36 outside", x.stonesBy(0, 2, 0, 3), -12);
        DUE.is("36 what stood ahead came", x.count(0), 2);
        DUE.is("36 what stood ahead", x.told(1, 0), 5);
        DUE.is("36 outside from its start", x.stonesBy(0, 2, -1, 1), -12);
        DUE.is("36 outside from its start", x.stonesBy(0, 2, 8, 1), -12);
        DUE.is("36 outside by two", x.stonesBy(0, 2, 7, 1), -12);
        DUE.is("36 outside by one", x.stonesBy(0, 2, 6, 1), -12);
        DUE.is("36 far off", x.stonesBy(0, 2, Integer.MAX_VALUE, 2), -12);
        DUE.is("36 far off", x.stonesBy(0, 2, Integer.MAX_VALUE - 4, 5), -12);
        DUE.is("36 far off", x.stonesBy(0, 2, Integer.MIN_VALUE, 5), -12);
        DUE.is("36 below 0, where a later one would stand", x.stonesBy(0, 2, -3, 2), -12);
        DUE.is("36 none more came", x.count(0), 2);
        DUE.is("36 the last three", x.stonesBy(0, 2, 5, 1), 1);
        DUE.is("36 the last three", x.told(2, 1), 8);
    }

    private static void stonesByRefuses() {
        StonesChoose x = new StonesChoose();
        x.sheet(0, 0, 9);
        DUE.is("36 sheet below", x.stonesBy(-1, 0, 0, 1), -2);
        DUE.is("36 sheet above", x.stonesBy(4, 0, 0, 1), -2);
        DUE.is("36 sort below", x.stonesBy(0, -1, 0, 1), -2);
        DUE.is("36 sort above", x.stonesBy(0, 3, 0, 1), -2);
        DUE.is("36 n below", x.stonesBy(0, 0, 0, -1), -2);
        DUE.is("36 n above", x.stonesBy(0, 0, 0, 6), -2);
        DUE.is("36 missing", x.stonesBy(1, 0, 0, 1), -11);
        DUE.is("36 n ahead of missing", x.stonesBy(1, 0, 0, 6), -2);
        DUE.is("36 sort of a missing one", x.stonesBy(1, -1, 0, 1), -2);
        DUE.is("36 of another sort", x.stonesBy(0, 1, -1, 1), -13);
        DUE.is("36 of another sort, none", x.stonesBy(0, 2, 0, 0), -13);
        DUE.is("36 none came", x.count(0), 0);
    }

    private static void taken() {
        StonesChoose x = new StonesChoose();
        x.stone(1, 20, 0);
        x.stone(12, 0, 0);
        x.stone(23, 0, 0);
        x.stone(34, 0, 0);
        x.stone(45, 0, 0);
        int[] bits = {1, 1 + 2, 1 + 4, 1 + 2 + 8, 1 + 4 + 16};
        for (int p = 0; p < 5; p++) {
            for (int kind = 0; kind < 6; kind++) {
                DUE.is("37 stone " + p + " for " + kind, x.taken(p, kind), (bits[p] >> kind & 1) != 0 ? p : -13);
            }
            DUE.is("37 stone for a building", x.taken(p, 6), -13);
        }
        StonesChoose y = new StonesChoose();
        y.stone(56, 0, 0);
        for (int kind = 0; kind < 7; kind++) {
            DUE.is("37 white for " + kind, y.taken(0, kind), kind == 0 || kind == 5 ? 0 : -13);
        }
        for (int b = 0; b < 5; b++) {
            x.build(b, 3, 11 * b);
            DUE.is("37 a building", x.taken(5 + b, 6), 11 * b);
            for (int kind = 0; kind < 6; kind++) {
                DUE.is("37 a building for a stone", x.taken(5 + b, kind), -13);
            }
        }
    }

    private static void takenRefuses() {
        StonesChoose x = new StonesChoose();
        DUE.is("37 kind below", x.taken(5, -1), -2);
        DUE.is("37 kind above", x.taken(5, 7), -2);
        DUE.is("37 kind ahead of i", x.taken(10, 7), -2);
        DUE.is("37 i below", x.taken(-1, 0), -12);
        DUE.is("37 i above", x.taken(10, 6), -12);
        DUE.is("37 no stones", x.taken(0, 0), -11);
        DUE.is("37 no such ahead of its kind", x.taken(0, 6), -11);
        x.stone(0, 0, 0);
        DUE.is("37 a stone", x.taken(0, 0), 0);
        DUE.is("37 no second", x.taken(1, 0), -11);
        DUE.is("37 no fifth", x.taken(4, 0), -11);
    }
}

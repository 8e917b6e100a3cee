/** Promises 23 to 28: judge, kinds, states, whose, laws, film. */
public final class ToldTest {
    private static final Due DUE = new Due("ToldTest");

    public static void main(String[] args) {
        judge();
        judgeSizes();
        refusals();
        kinds();
        states();
        statesOfOneThatIsIn();
        whose();
        laws();
        film();
        filmRefuses();
        DUE.end();
    }

    /** A stone that lies at 50, goes by 9 to 99, where all buildings are, and is there in year 6. */
    private static StonesChoose goer() {
        StonesChoose x = new StonesChoose();
        for (int b = 0; b < 5; b++) {
            x.build(b, 0, 99);
        }
        x.stone(0, 50, 5);
        return x;
    }

    private static void judge() {
        StonesChoose x = goer();
        Due.row(x, 0, 0, 59, 68, 77, 86, 95, 99, 99);
        DUE.is("23 none is otherwise", x.judge(0, 0), -1);
        x.cell(0, 6, 98);
        DUE.is("23 the last", x.judge(0, 0), 6);
        x.cell(0, 2, 78);
        DUE.is("23 the first that is otherwise", x.judge(0, 0), 2);
        x.cell(0, 0, 50);
        DUE.is("23 number 0", x.judge(0, 0), 0);
        DUE.is("23 in thought", x.told(0, 0), 50);
        DUE.is("23 in thought", x.count(1), 0);
        Due.row(x, 1, 1, 59, 68, 77);
        DUE.is("23 shorts", x.judge(1, 0), -1);
        Due.row(x, 2, 2, 59, 68, 77);
        DUE.is("23 ints", x.judge(2, 0), -1);
        x.cell(2, 1, 68 + 65536);
        DUE.is("23 ints as they are", x.judge(2, 0), 1);
        x.cell(1, 1, 68 + 65536);
        DUE.is("23 shorts as they are", x.judge(1, 0), -1);
        x.year();
        Due.row(x, 3, 0, 68, 77);
        DUE.is("23 behind now", x.judge(3, 0), -1);
    }

    private static void judgeSizes() {
        StonesChoose x = goer();
        x.sheet(0, 0, 0);
        DUE.is("23 it tells none", x.judge(0, 0), -1);
        x.put(0, 0, 99);
        x.sheet(0, 0, 20);
        for (int i = 0; i < 20; i++) {
            x.cell(0, i, 99);
        }
        DUE.is("23 it tells 20", x.judge(0, 0), -1);
        x.cell(0, 19, 1);
        DUE.is("23 the last of 20", x.judge(0, 0), 19);
        x.sheet(1, 0, 21);
        DUE.is("23 it tells 21", x.judge(1, 0), -2);
        DUE.is("24 it tells 21", x.kinds(1, 0, 0), -2);
        DUE.is("25 it tells 21", x.states(1, 0, 0, 0), -2);
        DUE.is("26 it tells 21", x.whose(1), -2);
        DUE.is("27 it tells 21", x.laws(1, 0), -2);
        DUE.is("23 21 ahead of the stone", x.judge(1, 9), -2);
        DUE.is("24 21 ahead of the stone", x.kinds(1, 9, 0), -2);
        DUE.is("25 21 ahead of the stone", x.states(1, 9, 0, 0), -2);
        DUE.is("27 21 ahead of the stone", x.laws(1, 9), -2);
    }

    private static void refusals() {
        StonesChoose x = goer();
        for (int s = -1; s < 5; s += 5) {
            DUE.is("23 sheet", x.judge(s, 9), -2);
            DUE.is("24 sheet", x.kinds(s, 9, 9), -2);
            DUE.is("25 sheet", x.states(s, 9, 9, 9), -2);
            DUE.is("26 sheet", x.whose(s), -2);
            DUE.is("27 sheet", x.laws(s, 9), -2);
        }
        DUE.is("23 missing", x.judge(1, 9), -11);
        DUE.is("24 missing", x.kinds(1, 9, 9), -11);
        DUE.is("25 missing", x.states(1, 9, 9, 9), -11);
        DUE.is("26 missing", x.whose(1), -11);
        DUE.is("27 missing", x.laws(1, 9), -11);
        x.sheet(1, 0, 3);
        for (int p = -1; p < 2; p += 2) {
            DUE.is("23 stone", x.judge(1, p), -5);
            DUE.is("24 stone", x.kinds(1, p, 9), -5);
            DUE.is("25 stone", x.states(1, p, 9, 9), -5);
            DUE.is("27 stone", x.laws(1, p), -5);
        }
        DUE.is("24 sort below", x.kinds(1, 0, -1), -7);
        DUE.is("24 sort above", x.kinds(1, 0, 2), -7);
        DUE.is("25 sort below", x.states(1, 0, -1, 0), -7);
        DUE.is("25 sort above", x.states(1, 0, 2, 0), -7);
        DUE.is("25 what below", x.states(1, 0, 0, -1), -7);
        DUE.is("25 what above", x.states(1, 0, 0, 2), -7);
    }

    private static void kinds() {
        StonesChoose x = goer();
        Due.row(x, 0, 0, 59, 68);
        DUE.is("24 only a stone goes by 9", x.kinds(0, 0, 0), 1);
        Due.row(x, 0, 0, 50, 50);
        DUE.is("24 lintel, step of MORE 0 in year 0", x.kinds(0, 0, 0), 2 + 8);
        Due.row(x, 0, 0, 54, 58);
        DUE.is("24 slab, convert", x.kinds(0, 0, 0), 4 + 16);
        Due.row(x, 0, 0, 51, 52);
        DUE.is("24 white", x.kinds(0, 0, 0), 32);
        Due.row(x, 0, 0, 53);
        DUE.is("24 none", x.kinds(0, 0, 0), 0);
        DUE.is("24 none", x.kinds(0, 0, 1), 0);
        Due.row(x, 0, 0, 59, 68);
        DUE.is("24 a stone by any MORE", x.kinds(0, 0, 1), 1023);
        x.sheet(0, 0, 0);
        DUE.is("24 it tells none", x.kinds(0, 0, 0), 63);
        DUE.is("24 in thought", x.told(0, 3), 0);
        DUE.is("24 in thought", x.told(0, 4), 0);
        StonesChoose y = goer();
        y.stone(39, 0, 0);
        Due.row(y, 0, 0, 6, 12);
        DUE.is("24 a step by MORE 6", y.kinds(0, 1, 1), 64);
        Due.row(y, 0, 0, 9);
        DUE.is("24 a step by MORE 9", y.kinds(0, 1, 1), 512);
        DUE.is("24 a step; a stone likes none that is 99 far", y.kinds(0, 1, 0), 8);
        y.build(2, 0, 0);
        Due.row(y, 0, 0, 0);
        DUE.is("24 by MORE 0, as it goes 0; by 2, 7, as that building is its own", y.kinds(0, 1, 1), 1 + 4 + 128);
    }

    private static void states() {
        StonesChoose x = goer();
        Due.row(x, 0, 0, 59, 68);
        DUE.is("25 one place", x.states(0, 0, 0, 0), 1);
        DUE.is("25 the place", x.states(0, 0, 0, 1), 50);
        DUE.is("25 any weight", x.states(0, 0, 1, 0), 100);
        DUE.is("25 the least weight", x.states(0, 0, 1, 1), 0);
        Due.row(x, 0, 0, 99);
        DUE.is("25 90 .. 99", x.states(0, 0, 0, 0), 10);
        DUE.is("25 the least", x.states(0, 0, 0, 1), 90);
        Due.row(x, 0, 0, 99, 98);
        DUE.is("25 none", x.states(0, 0, 0, 0), 0);
        DUE.is("25 none", x.states(0, 0, 0, 1), -1);
        DUE.is("25 none", x.states(0, 0, 1, 1), -1);
        x.sheet(0, 0, 0);
        DUE.is("25 it tells none", x.states(0, 0, 0, 0), 100);
        DUE.is("25 it tells none", x.states(0, 0, 0, 1), 0);
        Due.text(x, "likes 99 - far ; wants 0 ; goes weight - 40 ;");
        x.force(1);
        Due.row(x, 0, 0, 57);
        DUE.is("25 one weight", x.states(0, 0, 1, 0), 1);
        DUE.is("25 the weight", x.states(0, 0, 1, 1), 47);
        Due.row(x, 0, 0, 50);
        DUE.is("25 up to 40", x.states(0, 0, 1, 0), 41);
        Due.row(x, 0, 0, 99);
        DUE.is("25 from 89 on", x.states(0, 0, 1, 0), 11);
        DUE.is("25 from 89 on", x.states(0, 0, 1, 1), 89);
        DUE.is("25 in thought", x.told(0, 0), 50);
        DUE.is("25 in thought", x.told(0, 1), 5);
    }

    private static void statesOfOneThatIsIn() {
        StonesChoose x = goer();
        x.put(0, 0, 99);
        x.year();
        Due.row(x, 0, 0, 99, 99);
        DUE.is("25 it stays in what it is in", x.states(0, 0, 0, 0), 1);
        DUE.is("25 it stays in what it is in", x.states(0, 0, 0, 1), 99);
        Due.row(x, 0, 0, 30, 30);
        DUE.is("25 it stays in what it is in", x.states(0, 0, 0, 1), 30);
    }

    private static void whose() {
        StonesChoose x = goer();
        x.stone(0, 99, 5);
        x.stone(10, 50, 5);
        x.stone(9, 50, 7);
        Due.row(x, 0, 0, 59, 68);
        DUE.is("26 two go alike", x.whose(0), 1 + 8);
        Due.row(x, 0, 0, 50);
        DUE.is("26 the lintel", x.whose(0), 4);
        Due.row(x, 0, 0, 99);
        DUE.is("26 the second", x.whose(0), 2);
        Due.row(x, 0, 0, 98);
        DUE.is("26 nobody's", x.whose(0), 0);
        x.sheet(0, 0, 0);
        DUE.is("26 it tells none", x.whose(0), 15);
        DUE.is("26 no stones", nobody(), 0);
    }

    private static int nobody() {
        StonesChoose x = new StonesChoose();
        x.sheet(0, 0, 2);
        return x.whose(0);
    }

    private static void laws() {
        StonesChoose x = goer();
        Due.text(x, "likes 99 - far ; wants 0 ; goes 8 ;");
        Due.text(x, "likes 99 - far ; wants 5 ; goes 9 ;");
        Due.text(x, "likes 0 ; wants 0 ; goes 9 ;");
        Due.row(x, 0, 0, 59, 68);
        DUE.is("27 two of four", x.laws(0, 0), 1 + 4);
        Due.row(x, 0, 0, 58);
        DUE.is("27 one", x.laws(0, 0), 2);
        Due.row(x, 0, 0, 50);
        DUE.is("27 the one that likes none", x.laws(0, 0), 8);
        x.force(2);
        DUE.is("27 by any of them", x.laws(0, 0), 8);
        Due.row(x, 0, 0, 51);
        DUE.is("27 none", x.laws(0, 0), 0);
        DUE.is("27 in thought", x.count(4), 2);
        x.sheet(0, 0, 0);
        DUE.is("27 it tells none", x.laws(0, 0), 15);
    }

    private static void film() {
        StonesChoose x = goer();
        x.stone(50, 90, 0);
        DUE.is("28 seven", x.film(2, 0, 7), 7);
        DUE.is("28 it is told", x.judge(2, 0), -1);
        Due.row(x, 0, 0, 59, 68, 77, 86, 95, 99, 99);
        DUE.is("28 bytes of the same size", x.copy(2, 0, 0, 0, 7), 7);
        DUE.is("28 no eighth", x.cell(2, 7, 0), -12);
        DUE.is("28 the numbers", x.judge(0, 0), -1);
        DUE.is("28 not the other's", x.judge(0, 1), 0);
        DUE.is("28 the other's", x.film(0, 1, 20), 20);
        DUE.is("28 the other's", x.judge(0, 1), -1);
        DUE.is("28 in thought", x.count(1), 0);
        DUE.is("28 in thought", x.told(0, 0), 50);
        DUE.is("28 truly none", x.film(2, 0, 0), 0);
        DUE.is("28 it is there", x.judge(2, 0), -1);
        DUE.is("28 it holds nothing", x.cell(2, 0, 0), -12);
        x.sheet(3, 2, 30);
        DUE.is("28 over another", x.film(3, 0, 3), 3);
        x.cell(3, 0, 59 + 256);
        DUE.is("28 bytes", x.judge(3, 0), -1);
    }

    private static void filmRefuses() {
        StonesChoose x = goer();
        DUE.is("28 sheet below", x.film(-1, 0, 2), -2);
        DUE.is("28 sheet above", x.film(4, 0, 2), -2);
        DUE.is("28 sheet ahead of the stone", x.film(4, 7, 2), -2);
        DUE.is("28 stone below", x.film(0, -1, 2), -5);
        DUE.is("28 stone above", x.film(0, 1, 2), -5);
        DUE.is("28 stone ahead of n", x.film(0, 1, 21), -5);
        DUE.is("28 n below", x.film(0, 0, -1), -7);
        DUE.is("28 n above", x.film(0, 0, 21), -7);
        DUE.is("28 nothing changed", x.cell(0, 0, 0), -11);
    }
}

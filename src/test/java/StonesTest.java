/** Promises 10 to 13: stone, put, told, love, and with them how the kinds like, are wanted, go. */
public final class StonesTest {
    private static final Due DUE = new Due("StonesTest");

    public static void main(String[] args) {
        stone();
        stoneRefuses();
        put();
        putRefuses();
        told();
        wish();
        goes();
        likesOfLintels();
        likesOfOthers();
        wanted();
        loveRefuses();
        DUE.end();
    }

    private static void stone() {
        StonesChoose x = new StonesChoose();
        DUE.is("10 first", x.stone(0, 0, 0), 0);
        DUE.is("10 second", x.stone(59, 99, 99), 1);
        DUE.is("10 third", x.stone(37, 12, 34), 2);
        DUE.is("10 kind", x.told(0, 3), 0);
        DUE.is("10 more", x.told(0, 4), 0);
        DUE.is("10 kind", x.told(1, 3), 5);
        DUE.is("10 more", x.told(1, 4), 9);
        DUE.is("10 at", x.told(1, 0), 99);
        DUE.is("10 weight", x.told(1, 1), 99);
        DUE.is("10 kind", x.told(2, 3), 3);
        DUE.is("10 more", x.told(2, 4), 7);
        DUE.is("10 at", x.told(2, 0), 12);
        DUE.is("10 weight", x.told(2, 1), 34);
        DUE.is("10 in none", x.told(2, 2), -1);
        DUE.is("10 fourth", x.stone(10, 0, 0), 3);
        DUE.is("10 fifth", x.stone(20, 0, 0), 4);
        DUE.is("10 full", x.stone(30, 0, 0), -4);
        DUE.is("10 bad ahead of full", x.stone(30, 0, 100), -2);
        DUE.is("10 five", x.count(0), 5);
    }

    private static void stoneRefuses() {
        StonesChoose x = new StonesChoose();
        DUE.is("10 kind below", x.stone(-1, 0, 0), -2);
        DUE.is("10 kind above", x.stone(60, 0, 0), -2);
        DUE.is("10 where below", x.stone(0, -1, 0), -2);
        DUE.is("10 where above", x.stone(0, 100, 0), -2);
        DUE.is("10 heavy below", x.stone(0, 0, -1), -2);
        DUE.is("10 heavy above", x.stone(0, 0, 100), -2);
        DUE.is("10 none came", x.count(0), 0);
    }

    private static void put() {
        StonesChoose x = new StonesChoose();
        x.stone(0, 40, 5);
        x.stone(0, 99, 6);
        x.year();
        DUE.is("11 is in", x.told(0, 2), 2);
        DUE.is("11 weight was", x.put(0, 1, 99), 5);
        DUE.is("11 weight", x.told(0, 1), 99);
        DUE.is("11 weight leaves it in", x.told(0, 2), 2);
        DUE.is("11 weight leaves it at", x.told(0, 0), 40);
        DUE.is("11 at was", x.put(0, 0, 40), 40);
        DUE.is("11 it is in none", x.told(0, 2), -1);
        DUE.is("11 the building has none", x.site(2, 4), 0);
        DUE.is("11 at was", x.put(0, 0, 99), 40);
        DUE.is("11 at was", x.put(0, 0, 0), 99);
        DUE.is("11 at", x.told(0, 0), 0);
        DUE.is("11 weight 0", x.put(0, 1, 0), 99);
        DUE.is("11 weight", x.told(0, 1), 0);
        DUE.is("11 the other at", x.told(1, 0), 90);
        DUE.is("11 the other weight", x.told(1, 1), 6);
    }

    private static void putRefuses() {
        StonesChoose x = new StonesChoose();
        DUE.is("11 no stone", x.put(0, 0, 5), -5);
        x.stone(0, 40, 5);
        DUE.is("11 stone below", x.put(-1, 0, 5), -5);
        DUE.is("11 stone above", x.put(1, 0, 5), -5);
        DUE.is("11 stone ahead of what", x.put(1, 7, 500), -5);
        DUE.is("11 what below", x.put(0, -1, 5), -7);
        DUE.is("11 what above", x.put(0, 2, 5), -7);
        DUE.is("11 at below", x.put(0, 0, -1), -7);
        DUE.is("11 at above", x.put(0, 0, 100), -7);
        DUE.is("11 weight below", x.put(0, 1, -1), -7);
        DUE.is("11 weight above", x.put(0, 1, 100), -7);
        DUE.is("11 nothing changed", x.told(0, 0), 40);
        DUE.is("11 nothing changed", x.told(0, 1), 5);
    }

    private static void told() {
        StonesChoose x = new StonesChoose();
        DUE.is("12 no stone", x.told(0, 0), -5);
        x.stone(23, 41, 77);
        DUE.is("12 at", x.told(0, 0), 41);
        DUE.is("12 weight", x.told(0, 1), 77);
        DUE.is("12 in", x.told(0, 2), -1);
        DUE.is("12 kind", x.told(0, 3), 2);
        DUE.is("12 more", x.told(0, 4), 3);
        DUE.is("12 wish", x.told(0, 5), 2);
        DUE.is("12 goes", x.told(0, 6), 4);
        DUE.is("12 below", x.told(-1, 0), -5);
        DUE.is("12 above", x.told(1, 0), -5);
        DUE.is("12 stone ahead of what", x.told(1, 7), -5);
        DUE.is("12 what below", x.told(0, -1), -7);
        DUE.is("12 what above", x.told(0, 7), -7);
        x.year();
        DUE.is("12 in", x.told(0, 2), 2);
        DUE.is("12 wish, be it in one", x.told(0, 5), 2);
    }

    private static void wish() {
        StonesChoose x = new StonesChoose();
        x.stone(0, 30, 0);
        DUE.is("12 as much, the first", x.told(0, 5), 1);
        x.put(0, 0, 31);
        DUE.is("12 nearer", x.told(0, 5), 2);
        x.build(2, 1, 0);
        DUE.is("12 be there room or not", x.told(0, 5), 2);
        Due.text(x, "likes 0 ; wants 0 ; goes 0 ;");
        Due.text(x, "likes 1 ; wants 0 ; goes 0 ;");
        Due.text(x, "likes vain - 5 ; wants 0 ; goes 0 ;");
        x.force(1);
        DUE.is("12 likes none by more than 0", x.told(0, 5), -1);
        x.force(2);
        DUE.is("12 likes all by 1", x.told(0, 5), 0);
        x.force(3);
        DUE.is("12 likes none", x.told(0, 5), -1);
        x.build(4, 2, 6);
        DUE.is("12 likes one", x.told(0, 5), 4);
        x.build(3, 2, 7);
        DUE.is("12 likes one more", x.told(0, 5), 3);
        x.build(4, 2, 7);
        DUE.is("12 as much", x.told(0, 5), 3);
        x.build(0, 2, 5);
        DUE.is("12 0 is not more than 0", x.told(0, 5), 3);
    }

    /** How far a stone of a kind goes. */
    private static int goes(int kindMore, int year, String goes) {
        StonesChoose x = new StonesChoose();
        x.stone(kindMore, 55, 7);
        x.dawn(year);
        Due.text(x, "likes 1 ; wants 1 ; goes " + goes + " ;");
        x.force(1);
        return x.told(0, 6);
    }

    private static void goes() {
        DUE.is("12 stone", goes(5, 0, "17"), 17);
        DUE.is("12 stone, bounded", goes(5, 0, "170"), 99);
        DUE.is("12 stone, bounded", goes(5, 0, "-1"), 0);
        DUE.is("12 of none", goes(5, 0, "far + vain + built"), 0);
        DUE.is("12 of weight, more", goes(5, 3, "weight * 10 + more + year"), 78);
        DUE.is("12 lintel", goes(13, 0, "17"), 0);
        DUE.is("12 lintel", goes(13, 9, "17"), 0);
        DUE.is("12 lintel", goes(13, 10, "17"), 17);
        DUE.is("12 lintel", goes(13, 999, "17"), 17);
        DUE.is("12 slab", goes(28, 0, "17"), 8);
        DUE.is("12 slab", goes(28, 0, "200"), 49);
        DUE.is("12 slab", goes(28, 0, "1"), 0);
        DUE.is("12 step", goes(34, 9, "17"), 4);
        DUE.is("12 step", goes(34, 10, "17"), 21);
        DUE.is("12 step, above the bound", goes(39, 10, "99"), 108);
        DUE.is("12 convert", goes(48, 0, "17"), 8);
        DUE.is("12 convert", goes(48, 11, "17"), 8);
        DUE.is("12 white", goes(55, 0, "17"), 1);
        DUE.is("12 white", goes(55, 50, "0"), 1);
    }

    private static void likesOfLintels() {
        StonesChoose x = new StonesChoose();
        x.stone(17, 50, 0);
        x.stone(32, 50, 0);
        x.stone(14, 50, 0);
        for (int p = 0; p < 2; p++) {
            DUE.is("13 lintel and step, half", x.love(p, 0, 0), 24);
            DUE.is("13 lintel and step, half", x.love(p, 1, 0), 34);
            DUE.is("13 lintel and step, 99", x.love(p, 2, 0), 99);
            DUE.is("13 lintel and step, half", x.love(p, 3, 0), 44);
        }
        DUE.is("13 more 4", x.love(2, 4, 0), 99);
        Due.text(x, "likes 0 - vain ; wants 0 ; goes 0 ;");
        x.force(1);
        x.build(0, 2, 7);
        DUE.is("13 cut toward 0", x.love(0, 0, 0), -3);
        DUE.is("13 lintel of its own", x.love(0, 2, 0), 99);
        x.build(0, 2, 1);
        DUE.is("13 cut toward 0", x.love(0, 0, 0), 0);
        Due.text(x, "likes 500 ; wants 0 ; goes 0 ;");
        x.force(2);
        DUE.is("13 half of the bound", x.love(0, 0, 0), 49);
    }

    private static void likesOfOthers() {
        StonesChoose x = new StonesChoose();
        x.stone(3, 50, 0);
        x.stone(23, 50, 0);
        x.stone(43, 50, 0);
        x.stone(53, 50, 0);
        for (int p = 0; p < 4; p++) {
            DUE.is("13 as the text says", x.love(p, 2, 0), 89);
            DUE.is("13 as the text says", x.love(p, 0, 0), 49);
        }
        x.build(2, 2, 50);
        x.build(2, 3, 3);
        DUE.is("13 convert, vain 50", x.love(2, 2, 0), 89);
        DUE.is("13 white, built 3", x.love(3, 2, 0), 89);
        x.build(2, 2, 51);
        x.build(2, 3, 4);
        DUE.is("13 stone", x.love(0, 2, 0), 89);
        DUE.is("13 slab", x.love(1, 2, 0), 89);
        DUE.is("13 convert, vain 51", x.love(2, 2, 0), -89);
        DUE.is("13 convert elsewhere", x.love(2, 1, 0), 69);
        DUE.is("13 white, built 4", x.love(3, 2, 0), -1);
        DUE.is("13 white elsewhere", x.love(3, 1, 0), 69);
        Due.text(x, "likes 0 - 200 ; wants 0 ; goes 0 ;");
        x.force(1);
        DUE.is("13 convert likes what is not liked", x.love(2, 2, 0), 99);
        DUE.is("13 white", x.love(3, 2, 0), -1);
        DUE.is("13 stone", x.love(0, 2, 0), -99);
    }

    private static void wanted() {
        StonesChoose x = new StonesChoose();
        x.stone(7, 50, 30);
        x.stone(17, 50, 30);
        x.stone(27, 50, 30);
        x.stone(37, 50, 30);
        x.stone(47, 50, 30);
        int[] even = {30, 30, 100, -30, 100};
        int[] odd = {30, 30, 100, -30, 30};
        for (int p = 0; p < 5; p++) {
            DUE.is("13 wanted, year 0", x.love(p, 1, 1), even[p]);
        }
        x.dawn(7);
        for (int p = 0; p < 5; p++) {
            DUE.is("13 wanted, year 7", x.love(p, 1, 1), odd[p]);
        }
        x.dawn(8);
        DUE.is("13 wanted, year 8", x.love(4, 1, 1), 100);
        x.put(2, 1, 99);
        DUE.is("13 wanted, above the bound", x.love(2, 1, 1), 169);
        Due.text(x, "likes 0 ; wants 100 - far * 30 + vain ; goes 0 ;");
        x.force(1);
        x.build(3, 2, 8);
        DUE.is("13 wanted by a far one", x.love(0, 0, 1), -99);
        DUE.is("13 wanted by a far one", x.love(2, 0, 1), -29);
        DUE.is("13 wanted by a far one", x.love(3, 0, 1), 99);
        DUE.is("13 wanted by the vain one", x.love(0, 3, 1), -99);
        x.put(0, 0, 59);
        DUE.is("13 wanted by the vain one", x.love(0, 3, 1), 78);
        x.put(0, 0, 60);
        DUE.is("13 wanted by the vain one, bounded", x.love(0, 3, 1), 99);
        StonesChoose y = new StonesChoose();
        y.stone(59, 0, 12);
        DUE.is("13 white wanted", y.love(0, 1, 1), 12);
        y.build(1, 3, 99);
        DUE.is("13 white wanted", y.love(0, 1, 1), 12);
    }

    private static void loveRefuses() {
        StonesChoose x = new StonesChoose();
        DUE.is("13 no stone", x.love(0, 0, 0), -5000);
        x.stone(0, 0, 0);
        DUE.is("13 stone below", x.love(-1, 0, 0), -5000);
        DUE.is("13 stone above", x.love(1, 0, 0), -5000);
        DUE.is("13 building below", x.love(0, -1, 0), -5000);
        DUE.is("13 building above", x.love(0, 5, 0), -5000);
        DUE.is("13 none such ahead of what", x.love(0, 5, 2), -5000);
        DUE.is("13 none such ahead of what", x.love(1, 0, 2), -5000);
        DUE.is("13 what below", x.love(0, 0, -1), -7000);
        DUE.is("13 what above", x.love(0, 0, 2), -7000);
    }
}

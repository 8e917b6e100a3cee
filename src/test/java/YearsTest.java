/** Promises 14 to 16: year, run, when. */
public final class YearsTest {
    private static final Due DUE = new Due("YearsTest");

    public static void main(String[] args) {
        goesNearer();
        comesInAndIsCastOut();
        castOutGoesOn();
        liesThere();
        notTaken();
        toldAsItIsThen();
        asTheBuildingIs();
        built();
        lastYear();
        run();
        runRefuses();
        when();
        whenRefuses();
        DUE.end();
    }

    private static void goesNearer() {
        StonesChoose x = new StonesChoose();
        x.stone(0, 31, 5);
        x.stone(0, 69, 5);
        DUE.is("14 both are there by 9", x.year(), 3);
        DUE.is("14 nearer from below", x.told(0, 0), 40);
        DUE.is("14 nearer from above", x.told(1, 0), 60);
        DUE.is("14 year", x.count(1), 1);
        StonesChoose y = new StonesChoose();
        y.build(0, 0, 99);
        y.stone(0, 5, 5);
        DUE.is("14 none", y.year(), 0);
        DUE.is("14 by 9", y.told(0, 0), 14);
        DUE.is("14 one", y.year(), 1);
        DUE.is("14 no further than there", y.told(0, 0), 20);
        DUE.is("14 in it", y.told(0, 2), 1);
        DUE.is("14 none, all are in", y.year(), 0);
        DUE.is("14 years", y.count(1), 3);
        StonesChoose z = new StonesChoose();
        z.stone(0, 92, 5);
        DUE.is("14 from above by 9", z.year(), 0);
        DUE.is("14 from above", z.told(0, 0), 83);
        DUE.is("14 there", z.year(), 1);
        DUE.is("14 there", z.told(0, 0), 80);
        Due.text(z, "likes 0 - 1 ; wants 0 ; goes 9 ;");
        z.force(1);
        z.put(0, 0, 50);
        DUE.is("14 no wish", z.year(), 0);
        DUE.is("14 it stays", z.told(0, 0), 50);
    }

    private static void comesInAndIsCastOut() {
        StonesChoose x = new StonesChoose();
        x.stone(0, 20, 5);
        x.stone(0, 20, 6);
        DUE.is("14 both, the first is cast out again", x.year(), 3);
        DUE.is("14 in none", x.told(0, 2), -1);
        DUE.is("14 lies there", x.told(0, 0), 20);
        DUE.is("14 in it", x.told(1, 2), 1);
        DUE.is("14 built twice", x.site(1, 3), 2);
        DUE.is("14 less wanted", x.year(), 0);
        x.put(0, 1, 6);
        DUE.is("14 as much wanted, its number is less", x.year(), 1);
        DUE.is("14 the other is out", x.told(1, 2), -1);
        DUE.is("14 as much wanted, its number is more", x.year(), 0);
        x.build(1, 1, 2);
        DUE.is("14 there is room", x.year(), 2);
        DUE.is("14 both are in", x.site(1, 4), 3);
        x.stone(0, 20, 6);
        DUE.is("14 as much wanted as two of less number", x.year(), 0);
        x.put(2, 1, 7);
        DUE.is("14 more wanted", x.year(), 4);
        DUE.is("14 of like ones the higher number is out", x.site(1, 4), 5);
        x.put(0, 1, 9);
        x.put(1, 1, 8);
        DUE.is("14 the least wanted is out", x.year(), 2);
        DUE.is("14 the least wanted is out", x.site(1, 4), 3);
    }

    /** Cast out by a stone of less number, it has its own turn in the same year. */
    private static void castOutGoesOn() {
        StonesChoose x = new StonesChoose();
        Due.text(x, "likes 90 - far - built * 30 ; wants weight ; goes 9 ;");
        x.force(1);
        x.build(2, 0, 25);
        x.stone(0, 99, 9);
        x.stone(0, 20, 5);
        DUE.is("14 the second is in", x.year(), 2);
        x.build(1, 3, 0);
        x.put(0, 0, 16);
        DUE.is("14 the first casts it out, and it comes to be in the next", x.year(), 3);
        DUE.is("14 the first is in", x.site(1, 4), 1);
        DUE.is("14 the second is in the next", x.site(2, 4), 2);
        StonesChoose y = new StonesChoose();
        y.stone(0, 20, 5);
        y.stone(0, 99, 9);
        y.year();
        y.put(1, 0, 20);
        DUE.is("14 cast out by one of higher number", y.year(), 2);
        DUE.is("14 it is behind its turn", y.told(0, 2), -1);
        DUE.is("14 it lies there", y.told(0, 0), 20);
    }

    /** In thought of another AT a stone stays in its building; cast out it lies at the building. */
    private static void liesThere() {
        StonesChoose x = new StonesChoose();
        x.stone(0, 20, 50);
        x.stone(0, 20, 5);
        x.build(1, 1, 1);
        x.put(0, 0, 90);
        DUE.is("14 the second is in", x.year(), 2);
        x.put(0, 0, 20);
        Due.row(x, 0, 0, 20);
        DUE.is("25 cast out it lies there, wherever it was thought to be", x.states(0, 1, 0, 0), 100);
        StonesChoose y = new StonesChoose();
        y.stone(0, 20, 5);
        DUE.is("14 the first is in", y.year(), 1);
        y.stone(0, 20, 50);
        Due.row(y, 0, 0, 20);
        DUE.is("25 the first, too, lies there", y.states(0, 0, 0, 0), 100);
    }

    private static void notTaken() {
        StonesChoose x = new StonesChoose();
        x.build(1, 1, 0);
        x.stone(0, 20, 99);
        DUE.is("14 no room for any", x.year(), 0);
        DUE.is("14 no room for any", x.told(0, 2), -1);
        DUE.is("14 not built", x.site(1, 3), 0);
        x.stone(0, 11, 99);
        DUE.is("14 it goes there", x.year(), 0);
        DUE.is("14 it goes there", x.told(1, 0), 20);
    }

    private static void toldAsItIsThen() {
        StonesChoose x = new StonesChoose();
        Due.text(x, "likes 50 - far - built * 10 ; wants weight - built + far * 10 ; goes 99 ;");
        x.force(1);
        x.build(1, 0, 1);
        x.build(2, 0, 50);
        x.stone(0, 0, 5);
        x.stone(0, 0, 90);
        DUE.is("14 both are in", x.year(), 3);
        DUE.is("14 the first in 0", x.site(0, 4), 1);
        DUE.is("14 the second likes 1 more, as 0 is built", x.site(1, 4), 2);
        StonesChoose y = new StonesChoose();
        Due.text(y, "likes 99 - far ; wants far ; goes 5 ;");
        y.force(1);
        y.stone(0, 20, 0);
        y.stone(0, 22, 0);
        DUE.is("14 wanted as it lies then, behind its way", y.year(), 1);
        StonesChoose z = new StonesChoose();
        Due.text(z, "likes 99 - far ; wants weight * (built = 1) ; goes 9 ;");
        z.force(1);
        z.stone(0, 20, 1);
        z.stone(0, 20, 2);
        z.stone(0, 20, 3);
        DUE.is("14 wanted by what is built then", z.year(), 3);
        DUE.is("14 wanted by what is built then", z.site(1, 4), 2);
    }

    /** Liked and wanted by what that building is, truly and in thought: each is tried as the only one of its kind. */
    private static void asTheBuildingIs() {
        String[] laws = {"likes vain ; wants weight * (vain = 7) ; goes 99 ;",
            "likes built * (built < 9) ; wants weight * built ; goes 99 ;"};
        for (int b = 0; b < 5; b++) {
            for (int i = 0; i < 2; i++) {
                StonesChoose x = new StonesChoose();
                Due.text(x, laws[i]);
                x.force(1);
                x.build(b, 2 + i, 7);
                x.stone(0, 50, 5);
                x.stone(0, 50, 6);
                DUE.is("15 the second, by building " + b, x.run(1, 0), b + 1);
                DUE.is("18 the second, by building " + b, x.court(0), b + 1);
                DUE.is("14 the second casts out the first", x.year(), 3);
                DUE.is("14 it is in", x.site(b, 4), 2);
                DUE.is("14 built twice", x.site(b, 3), i == 0 ? 2 : 9);
            }
        }
    }

    private static void built() {
        StonesChoose x = new StonesChoose();
        x.build(0, 3, 98);
        x.stone(0, 0, 1);
        x.stone(0, 0, 2);
        x.stone(0, 0, 3);
        DUE.is("14 three come in", x.year(), 7);
        DUE.is("14 99 at most", x.site(0, 3), 99);
    }

    private static void lastYear() {
        StonesChoose x = new StonesChoose();
        x.stone(0, 20, 1);
        x.dawn(998);
        DUE.is("14 year 998", x.year(), 1);
        DUE.is("14 year 999", x.count(1), 999);
        x.put(0, 0, 20);
        DUE.is("14 state", x.year(), -3);
        DUE.is("14 nothing changed", x.told(0, 2), -1);
        DUE.is("14 year 999", x.count(1), 999);
        DUE.is("15 in thought it passes 999", x.run(1, 0), 2);
        Due.text(x, "likes (999 < year) * 9 - (1002 < year) * 90 ; wants 0 ; goes 9 ;");
        x.force(1);
        DUE.is("15 999", x.run(1, 0), 0);
        DUE.is("15 1000", x.run(2, 10), 11);
        DUE.is("15 1001, 1002", x.run(4, 0), 1);
        DUE.is("16 behind 4", x.when(0, -1), 4);
    }

    private static void run() {
        StonesChoose x = new StonesChoose();
        x.stone(0, 20, 3);
        x.stone(0, 34, 4);
        x.stone(0, 99, 5);
        DUE.is("15 none", x.run(0, 0), 0);
        DUE.is("15 none", x.run(0, 1), 3);
        DUE.is("15 none", x.run(0, 12), 99);
        DUE.is("15 one", x.run(1, 0), 230);
        DUE.is("15 one", x.run(1, 1), 1);
        DUE.is("15 one", x.run(1, 10), 20);
        DUE.is("15 one", x.run(1, 11), 40);
        DUE.is("15 one", x.run(1, 12), 90);
        DUE.is("15 three", x.run(3, 0), 235);
        DUE.is("15 forty", x.run(40, 1), 0);
        DUE.is("15 in thought", x.count(1), 0);
        DUE.is("15 in thought", x.told(2, 0), 99);
        DUE.is("15 in thought", x.count(2), 3);
        DUE.is("15 in thought", x.site(1, 3), 0);
        StonesChoose y = new StonesChoose();
        y.stone(10, 1, 0);
        DUE.is("15 a lintel waits ten years", y.run(10, 10), 1);
        DUE.is("15 and goes", y.run(11, 10), 0);
        y.build(0, 0, 99);
        DUE.is("15 forty", y.run(40, 10), 99);
        y.build(4, 0, 0);
        y.put(0, 0, 0);
        DUE.is("15 its own", y.run(20, 10), 90);
        DUE.is("15 its own", y.run(21, 10), 99);
    }

    private static void runRefuses() {
        StonesChoose x = new StonesChoose();
        DUE.is("15 n below", x.run(-1, 0), -2);
        DUE.is("15 n above", x.run(41, 0), -2);
        DUE.is("15 what below", x.run(0, -1), -2);
        DUE.is("15 what 2", x.run(0, 2), -2);
        DUE.is("15 what 9", x.run(0, 9), -2);
        DUE.is("15 no stone", x.run(0, 10), -2);
        x.stone(0, 7, 0);
        DUE.is("15 a stone", x.run(0, 10), 7);
        DUE.is("15 no second", x.run(0, 11), -2);
        DUE.is("15 what far off", x.run(0, Integer.MIN_VALUE), -2);
    }

    private static void when() {
        StonesChoose x = new StonesChoose();
        x.stone(0, 20, 3);
        x.stone(0, 34, 4);
        x.stone(0, 99, 5);
        DUE.is("16 behind 1", x.when(0, -1), 1);
        DUE.is("16 behind 1", x.when(0, 1), 1);
        DUE.is("16 not in this", x.when(0, 2), -1);
        DUE.is("16 behind 1", x.when(1, 2), 1);
        DUE.is("16 behind 3", x.when(2, 4), 3);
        DUE.is("16 behind 3", x.when(2, -1), 3);
        x.year();
        DUE.is("16 behind 0", x.when(0, -1), 0);
        DUE.is("16 behind 0", x.when(0, 1), 0);
        DUE.is("16 behind 2", x.when(2, -1), 2);
        DUE.is("16 in thought", x.count(1), 1);
        StonesChoose y = new StonesChoose();
        y.stone(50, 60, 0);
        y.build(3, 0, 0);
        y.build(0, 2, 1);
        for (int b = 1; b < 5; b++) {
            y.build(b, 0, 0);
        }
        DUE.is("16 behind 60", y.when(0, -1), 60);
        DUE.is("16 behind 60", y.when(0, 0), 60);
        y.put(0, 0, 61);
        DUE.is("16 behind 61 is too late", y.when(0, -1), -1);
        StonesChoose z = new StonesChoose();
        z.stone(0, 20, 1);
        z.stone(0, 20, 2);
        DUE.is("16 cast out in the same year it is not in", z.when(0, -1), -1);
        DUE.is("16 the other is", z.when(1, -1), 1);
    }

    private static void whenRefuses() {
        StonesChoose x = new StonesChoose();
        DUE.is("16 no stone", x.when(0, 0), -5);
        x.stone(0, 20, 3);
        DUE.is("16 stone below", x.when(-1, 0), -5);
        DUE.is("16 stone above", x.when(1, 0), -5);
        DUE.is("16 stone ahead of what", x.when(1, 5), -5);
        DUE.is("16 what below", x.when(0, -2), -7);
        DUE.is("16 what above", x.when(0, 5), -7);
    }
}

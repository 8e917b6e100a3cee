/** Promises 20 to 22: annex, cart, share. */
public final class BestTest {
    private static final Due DUE = new Due("BestTest");

    public static void main(String[] args) {
        annex();
        annexFull();
        cart();
        cartOfLateOnes();
        cartToTheEnds();
        cartRefuses();
        share();
        DUE.end();
    }

    private static void annex() {
        StonesChoose x = new StonesChoose();
        DUE.is("20 nobody, the first", x.annex(0), 0);
        DUE.is("20 nobody", x.annex(1), 0);
        DUE.is("20 what below", x.annex(-1), -100000);
        DUE.is("20 what above", x.annex(2), -100000);
        x.stone(0, 60, 1);
        x.stone(0, 61, 2);
        DUE.is("20 one more in 3", x.annex(0), 3);
        DUE.is("20 both like it", x.annex(1), 99 + 98);
        DUE.is("20 in thought", x.site(3, 1), 1);
        x.stone(0, 99, 2);
        x.stone(0, 98, 2);
        DUE.is("20 now one more in 4 does most", x.annex(0), 4);
        DUE.is("20 only the lightest is not where it would be", x.annex(1), 79 + 98 + 80 + 81);
        x.put(0, 0, 80);
        x.put(1, 0, 59);
        DUE.is("20 one more in 4", x.annex(0), 4);
        DUE.is("20 the lightest is sent away by 4 and 3", x.annex(1), 59 + 98 + 80 + 81);
        for (int b = 0; b < 5; b++) {
            x.build(b, 1, 5);
        }
        DUE.is("20 room enough, the first", x.annex(0), 0);
        DUE.is("20 room enough", x.annex(1), 99 + 98 + 80 + 81);
    }

    private static void annexFull() {
        StonesChoose x = new StonesChoose();
        for (int b = 0; b < 5; b++) {
            x.build(b, 1, 0);
        }
        x.stone(0, 45, 1);
        DUE.is("20 no room anywhere, the nearest", x.annex(0), 2);
        DUE.is("20 how much", x.annex(1), 94);
        x.put(0, 0, 50);
        DUE.is("20 as much, the first", x.annex(0), 2);
        x.put(0, 0, 51);
        DUE.is("20 nearer to 3", x.annex(0), 3);
        DUE.is("20 no room still", x.court(0), 0);
    }

    private static void cart() {
        StonesChoose x = new StonesChoose();
        x.stone(0, 50, 5);
        DUE.is("21 the first place, at a building", x.cart(0, 0), 0);
        DUE.is("21 behind one", x.cart(0, 1), 1);
        DUE.is("21 in thought", x.told(0, 0), 50);
        for (int b = 0; b < 5; b++) {
            x.build(b, 0, 30 + b);
        }
        DUE.is("21 by 9 from 30", x.cart(0, 0), 21);
        DUE.is("21 behind one", x.cart(0, 1), 1);
        x.year();
        x.year();
        x.year();
        DUE.is("21 be it in one now", x.told(0, 2), 4);
        DUE.is("21 it would be in none", x.cart(0, 0), 21);
        DUE.is("21 behind one", x.cart(0, 1), 1);
        DUE.is("21 in thought", x.told(0, 2), 4);
        x.stone(0, 30, 99);
        x.year();
        DUE.is("21 the first building is a heavier one's, and from 0 .. 30 it would go there", x.cart(0, 0), 31);
        StonesChoose y = new StonesChoose();
        for (int b = 0; b < 5; b++) {
            y.build(b, 0, 99);
        }
        y.stone(50, 7, 0);
        DUE.is("21 a white one goes 1", y.cart(0, 0), 98);
        DUE.is("21 behind one", y.cart(0, 1), 1);
        Due.text(y, "likes far * 2 - year ; wants 0 ; goes 1 ;");
        y.force(1);
        y.dawn(50);
        DUE.is("21 liked only where it is far", y.cart(0, 0), -1);
        DUE.is("21 and not to the end", y.cart(0, 1), -1);
    }

    private static void cartOfLateOnes() {
        StonesChoose x = new StonesChoose();
        x.stone(13, 50, 5);
        for (int b = 0; b < 3; b++) {
            x.build(b, 0, 99);
        }
        x.build(3, 0, 5);
        DUE.is("21 a lintel goes in year 10 only", x.cart(0, 1), 1);
        DUE.is("21 it lies there", x.cart(0, 0), 5);
        x.build(3, 1, 0);
        DUE.is("21 its own has no room", x.cart(0, 0), -1);
        DUE.is("21 its own has no room", x.cart(0, 1), -1);
        StonesChoose y = new StonesChoose();
        Due.text(y, "likes (58 < year) * 99 ; wants 0 ; goes 99 ;");
        y.force(1);
        y.stone(0, 3, 0);
        DUE.is("21 all alike, the first", y.cart(0, 0), 0);
        DUE.is("21 behind 60", y.cart(0, 1), 60);
        Due.text(y, "likes (59 < year) * 99 ; wants 0 ; goes 99 ;");
        y.force(2);
        DUE.is("21 61 is too late", y.cart(0, 0), -1);
        DUE.is("21 61 is too late", y.cart(0, 1), -1);
        StonesChoose z = new StonesChoose();
        Due.text(z, "likes (2 < year) * (99 - far) ; wants 0 ; goes 9 ;");
        z.force(1);
        z.build(0, 0, 90);
        z.build(4, 0, 13);
        z.stone(0, 50, 0);
        DUE.is("21 all wait, the first by 9", z.cart(0, 0), 4);
        DUE.is("21 behind four", z.cart(0, 1), 4);
    }

    private static void cartToTheEnds() {
        StonesChoose x = new StonesChoose();
        Due.text(x, "likes far = 60 ; wants 0 ; goes 99 ;");
        Due.text(x, "likes far = 59 ; wants 0 ; goes 99 ;");
        x.stone(0, 50, 0);
        for (int b = 0; b < 5; b++) {
            x.build(b, 0, 40);
        }
        x.force(1);
        DUE.is("21 place 100 is none", x.cart(0, 0), -1);
        x.force(2);
        DUE.is("21 place 99 is one", x.cart(0, 0), 99);
        DUE.is("21 behind one", x.cart(0, 1), 1);
    }

    private static void cartRefuses() {
        StonesChoose x = new StonesChoose();
        DUE.is("21 no stone", x.cart(0, 0), -5);
        x.stone(0, 50, 5);
        DUE.is("21 stone below", x.cart(-1, 0), -5);
        DUE.is("21 stone above", x.cart(1, 0), -5);
        DUE.is("21 stone ahead of what", x.cart(1, 2), -5);
        DUE.is("21 what below", x.cart(0, -1), -7);
        DUE.is("21 what above", x.cart(0, 2), -7);
    }

    private static void share() {
        StonesChoose x = new StonesChoose();
        DUE.is("22 no stones", x.share(0), StonesChoose.NO);
        x.stone(0, 20, 0);
        DUE.is("22 weight 0", x.share(1), StonesChoose.NO);
        x.stone(0, 99, 0);
        x.year();
        DUE.is("22 weight 0, one is in", x.share(0), StonesChoose.NO);
        x.put(1, 1, 12);
        DUE.is("22 0 of 12", x.share(0), 0);
        DUE.is("22 0 of 12", x.share(1), 1);
        x.put(0, 1, 30);
        DUE.is("22 30 of 42", x.share(0), 5);
        DUE.is("22 30 of 42", x.share(1), 7);
        x.put(0, 1, 13);
        DUE.is("22 13 of 25", x.share(0), 13);
        DUE.is("22 13 of 25", x.share(1), 25);
        x.put(1, 1, 0);
        DUE.is("22 13 of 13", x.share(0), 1);
        DUE.is("22 13 of 13", x.share(1), 1);
        DUE.is("22 part below", x.share(-1), StonesChoose.NO);
        DUE.is("22 part above", x.share(2), StonesChoose.NO);
        StonesChoose y = new StonesChoose();
        y.stone(0, 0, 99);
        y.stone(0, 20, 66);
        y.stone(0, 99, 55);
        y.year();
        DUE.is("22 165 of 220", y.share(0), 3);
        DUE.is("22 165 of 220", y.share(1), 4);
    }
}

/** Promises 17 to 19: peace, court, all. */
public final class PeaceTest {
    private static final Due DUE = new Due("PeaceTest");

    public static void main(String[] args) {
        nobody();
        refuses();
        againstPeace();
        againstPeaceByTaking();
        sums();
        twoPeaces();
        noPeaceIsDearest();
        likeOnes();
        chain();
        rooms();
        onlyWhatIsLiked();
        asAllLies();
        DUE.end();
    }

    private static void nobody() {
        StonesChoose x = new StonesChoose();
        DUE.is("17 nobody", x.peace(0), -1);
        DUE.is("17 nobody", x.peace(1), 0);
        DUE.is("17 nobody", x.peace(2), 0);
        for (int what = 0; what < 3; what++) {
            DUE.is("18 nobody", x.court(what), 0);
        }
        DUE.is("19 one way", x.all(0), 1);
        for (int what = 1; what < 5; what++) {
            DUE.is("19 one way", x.all(what), 0);
        }
    }

    private static void refuses() {
        StonesChoose x = new StonesChoose();
        x.stone(0, 0, 5);
        DUE.is("17 below", x.peace(-1), -100000);
        DUE.is("17 above", x.peace(3), -100000);
        DUE.is("18 below", x.court(-1), -100000);
        DUE.is("18 above", x.court(3), -100000);
        DUE.is("19 below", x.all(-1), -100000);
        DUE.is("19 above", x.all(5), -100000);
    }

    private static void againstPeace() {
        StonesChoose x = new StonesChoose();
        x.build(1, 1, 2);
        x.stone(0, 20, 5);
        x.stone(0, 20, 6);
        DUE.is("17 in none, and taken by the first of all", x.peace(0), 0);
        x.year();
        DUE.is("17 peace", x.peace(0), -1);
        DUE.is("17 liked", x.peace(1), 198);
        DUE.is("17 wanted", x.peace(2), 11);
        Due.text(x, "likes 0 ; wants 0 ; goes 0 ;");
        x.force(1);
        DUE.is("17 not liked by more than 0", x.peace(0), 9);
        DUE.is("17 liked", x.peace(1), 0);
        x.put(0, 0, 20);
        DUE.is("17 the second", x.peace(0), 19);
        x.put(1, 0, 20);
        DUE.is("17 in none, none is liked", x.peace(0), -1);
        Due.text(x, "likes 1 ; wants 0 ; goes 0 ;");
        x.force(2);
        for (int b = 0; b < 5; b++) {
            DUE.is("17 the first that takes it", x.peace(0), b);
            x.build(b, 1, 0);
        }
        DUE.is("17 no room anywhere", x.peace(0), -1);
    }

    /** Stone 0 is in building 2; the law is changed behind that. */
    private static StonesChoose inTwo(String likes, String wants) {
        StonesChoose x = new StonesChoose();
        x.stone(0, 40, 5);
        x.year();
        Due.text(x, "likes " + likes + " ; wants " + wants + " ; goes 9 ;");
        x.force(1);
        return x;
    }

    private static void againstPeaceByTaking() {
        StonesChoose x = inTwo("9 + vain", "0");
        DUE.is("17 as much, its number is less", x.peace(0), 0);
        x.build(0, 1, 0);
        DUE.is("17 as much, its number is less", x.peace(0), 1);
        x.build(1, 1, 0);
        DUE.is("17 as much, its number is more", x.peace(0), -1);
        x.build(3, 2, 1);
        DUE.is("17 liked more", x.peace(0), 3);
        x.build(4, 2, 2);
        DUE.is("17 the first, not the dearest", x.peace(0), 3);
        x.build(2, 2, 2);
        DUE.is("17 as much, its number is more", x.peace(0), -1);
        x.build(2, 2, 1);
        DUE.is("17 liked more", x.peace(0), 4);
        StonesChoose y = new StonesChoose();
        y.stone(0, 40, 5);
        y.stone(0, 60, 7);
        y.year();
        Due.text(y, "likes 9 + vain ; wants weight ; goes 9 ;");
        y.force(1);
        y.build(0, 1, 0);
        y.build(1, 1, 0);
        y.build(3, 2, 1);
        DUE.is("17 liked more, but it does not take it", y.peace(0), -1);
        y.put(0, 1, 7);
        DUE.is("17 as much wanted, its number is less", y.peace(0), 3);
        y.put(0, 1, 6);
        DUE.is("17 less wanted", y.peace(0), -1);
        y.build(3, 1, 2);
        DUE.is("17 there is room", y.peace(0), 3);
        y.build(3, 1, 1);
        y.build(2, 2, 2);
        DUE.is("17 the second is less wanted there", y.peace(0), 12);
        y.put(1, 1, 5);
        DUE.is("17 the second is less wanted there", y.peace(0), -1);
    }

    private static void sums() {
        StonesChoose x = new StonesChoose();
        x.stone(0, 20, 30);
        x.stone(23, 40, 7);
        x.stone(34, 99, 11);
        x.stone(0, 0, 9);
        x.year();
        DUE.is("17 all but one are in", x.run(0, 0), 2301);
        DUE.is("17 liked", x.peace(1), 297);
        DUE.is("17 wanted", x.peace(2), 76);
        x.build(2, 2, 1);
        Due.text(x, "likes vain - 4 ; wants 0 - weight ; goes 9 ;");
        x.force(1);
        DUE.is("17 liked, below 0", x.peace(1), -11);
        DUE.is("17 wanted, below 0", x.peace(2), -16);
    }

    /** Two stones, each nearer to the building that wants the other more; no other has room. */
    private static StonesChoose crossed() {
        StonesChoose x = new StonesChoose();
        for (int b = 2; b < 5; b++) {
            x.build(b, 1, 0);
        }
        Due.text(x, "likes 99 - far ; wants far ; goes 9 ;");
        x.force(1);
        x.stone(0, 2, 0);
        x.stone(0, 18, 0);
        return x;
    }

    private static void twoPeaces() {
        StonesChoose x = crossed();
        DUE.is("18 stones ask", x.court(0), 12);
        DUE.is("18 liked", x.court(1), 194);
        DUE.is("18 wanted", x.court(2), 4);
        DUE.is("19 two", x.all(0), 2);
        DUE.is("19 most liked", x.all(1), 12);
        DUE.is("19 how much", x.all(2), 194);
        DUE.is("19 of all", x.all(3), 12);
        DUE.is("19 of all", x.all(4), 194);
        DUE.is("19 in thought", x.count(2), 2);
    }

    private static void noPeaceIsDearest() {
        StonesChoose x = new StonesChoose();
        for (int b = 2; b < 5; b++) {
            x.build(b, 1, 0);
        }
        x.build(1, 0, 50);
        Due.text(x, "likes 60 - far ; wants weight ; goes 9 ;");
        x.force(1);
        x.stone(0, 5, 1);
        x.stone(0, 20, 9);
        DUE.is("18 the heavier is in", x.court(0), 21);
        DUE.is("18 the lighter is sent to the next", x.court(1), 55);
        DUE.is("19 one", x.all(0), 1);
        DUE.is("19 peace", x.all(1), 21);
        DUE.is("19 peace", x.all(2), 55);
        DUE.is("19 peace or not", x.all(3), 12);
        DUE.is("19 peace or not", x.all(4), 85);
        x.put(0, 1, 9);
        DUE.is("18 as heavy, its number is less", x.court(0), 12);
        DUE.is("19 peace", x.all(2), 85);
    }

    private static void likeOnes() {
        StonesChoose x = new StonesChoose();
        Due.text(x, "likes 7 ; wants 1 ; goes 9 ;");
        x.force(1);
        x.stone(0, 2, 0);
        x.stone(0, 2, 0);
        DUE.is("18 the first by number", x.court(0), 12);
        DUE.is("18 liked", x.court(1), 14);
        DUE.is("18 wanted", x.court(2), 2);
        DUE.is("19 peace", x.all(0), 1);
        DUE.is("19 of like ones the first by digits", x.all(3), 12);
        DUE.is("19 how much", x.all(4), 14);
        Due.text(x, "likes 0 ; wants 1 ; goes 9 ;");
        x.force(2);
        DUE.is("18 none is liked", x.court(0), 0);
        DUE.is("19 only none in any", x.all(0), 1);
        DUE.is("19 of like ones the first by digits", x.all(1), 0);
        DUE.is("19 of like ones the first by digits", x.all(3), 0);
        DUE.is("19 how much", x.all(4), 0);
        StonesChoose y = crossed();
        y.put(0, 0, 10);
        y.put(1, 0, 10);
        Due.text(y, "likes 99 - far ; wants weight + far * vain ; goes 9 ;");
        y.force(2);
        DUE.is("19 all like all alike", y.all(3), 12);
        DUE.is("19 all like all alike", y.all(1), 12);
        DUE.is("19 all like all alike", y.all(0), 1);
    }

    /** Each newcomer sends the one before further on. */
    private static void chain() {
        StonesChoose x = new StonesChoose();
        for (int p = 0; p < 5; p++) {
            DUE.is("18 a stone", x.stone(0, 0, 10 * p), p);
        }
        DUE.is("18 each is sent away by all behind it", x.court(0), 54321);
        DUE.is("18 liked", x.court(1), 99 + 79 + 59 + 39 + 19);
        DUE.is("18 wanted", x.court(2), 100);
        DUE.is("19 one", x.all(0), 1);
        DUE.is("19 peace", x.all(1), 54321);
        DUE.is("19 of all, of like ones the first", x.all(3), 12345);
        DUE.is("19 how much", x.all(4), 295);
        for (int p = 0; p < 5; p++) {
            x.put(p, 1, 40 - 10 * p);
        }
        DUE.is("18 none is sent away who is in", x.court(0), 12345);
        for (int b = 0; b < 5; b++) {
            x.build(b, 1, 5);
        }
        DUE.is("18 room for all", x.court(0), 11111);
        DUE.is("19 room for all", x.all(0), 1);
        DUE.is("19 room for all", x.all(3), 11111);
        DUE.is("19 room for all", x.all(4), 495);
        for (int p = 0; p < 5; p++) {
            x.put(p, 0, 80);
        }
        DUE.is("19 the last of all ways", x.all(3), 55555);
        DUE.is("19 the last of all ways", x.all(1), 55555);
        DUE.is("19 the last of all ways", x.all(2), 495);
    }

    private static void rooms() {
        StonesChoose x = new StonesChoose();
        x.build(0, 1, 2);
        x.build(1, 1, 0);
        for (int p = 0; p < 4; p++) {
            x.stone(0, 0, 10 + p);
        }
        DUE.is("18 two in the first, none where there is no room", x.court(0), 4311);
        DUE.is("19 of all", x.all(3), 1134);
        DUE.is("19 of all", x.all(4), 99 + 99 + 59 + 39);
        x.build(2, 1, 0);
        x.build(3, 1, 0);
        DUE.is("18 one is left", x.court(0), 511);
        x.build(4, 1, 0);
        DUE.is("18 two are left", x.court(0), 11);
        x.build(0, 1, 0);
        DUE.is("18 no room", x.court(0), 0);
        DUE.is("19 no room", x.all(0), 1);
        DUE.is("19 no room", x.all(3), 0);
    }

    private static void onlyWhatIsLiked() {
        StonesChoose x = new StonesChoose();
        Due.text(x, "likes 21 - far ; wants weight ; goes 9 ;");
        x.force(1);
        x.stone(0, 0, 1);
        x.stone(0, 0, 2);
        x.stone(0, 0, 3);
        DUE.is("18 the first is liked by 21, the second by 1", x.court(0), 21);
        DUE.is("18 liked", x.court(1), 22);
        x.build(1, 0, 21);
        DUE.is("18 liked by 0 it asks none", x.court(0), 1);
        DUE.is("19 liked by 0", x.all(1), 1);
        DUE.is("19 of all", x.all(3), 1);
        DUE.is("19 of all", x.all(4), 21);
    }

    /** Who is in a building now does not matter, but where it lies does. */
    private static void asAllLies() {
        StonesChoose x = new StonesChoose();
        x.stone(0, 40, 3);
        x.stone(0, 21, 9);
        x.year();
        DUE.is("18 both are in", x.run(0, 0), 32);
        DUE.is("18 nobody is in any at first", x.court(0), 32);
        x.put(0, 1, 50);
        x.build(2, 1, 1);
        x.put(1, 0, 40);
        DUE.is("18 as all lies", x.court(0), 32);
        x.put(1, 1, 99);
        DUE.is("18 as all lies", x.court(0), 23);
        DUE.is("18 in thought", x.run(0, 0), 30);
        DUE.is("19 as all lies", x.all(1), 23);
        DUE.is("17 the second would rather be in the first's", x.peace(0), 10);
        x.dawn(3);
        StonesChoose y = new StonesChoose();
        y.stone(47, 0, 5);
        y.stone(0, 0, 70);
        DUE.is("18 in even years wanted more", y.court(0), 12);
        y.dawn(1);
        DUE.is("18 in others not", y.court(0), 21);
    }
}

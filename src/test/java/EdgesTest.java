/** The edges that the document's sentences name, sentence by sentence; those of refusals stand in RefusalsTest. */
public final class EdgesTest {
    private static final Due DUE = new Due("EdgesTest");
    private static final String REST = " ; wants 0 ; goes 0 ;";

    public static void main(String[] args) {
        numbersAtTheirEnds();
        thoughtPassesTheLastYear();
        convertIsWantedInEvenYears();
        far();
        lintelsByMore();
        lintelInYearTen();
        lyingThereItNeedNotGo();
        stepGoesFurtherThanThereIs();
        whiteAndWhatIsBuilt();
        tokensAreAsLongAsCanBe();
        endsOfLettersAndDigits();
        expressionsWrap();
        whatIsNotZeroIsTrue();
        boundsOfTheLaw();
        openOnes();
        notLikedByMoreThanZero();
        theLastOfAllIsAgainstPeace();
        roomForAllAndForNobody();
        annexOfFive();
        cartAtTheEnds();
        allOfThem();
        toldNothingAndTwenty();
        statesAtTheEnds();
        numbersThatNoStoneHas();
        imageKeepsAllOfAll();
        lots();
        oneSeedAndForty();
        rowsOfForty();
        rowsAreAllZero();
        stonesByFives();
        DUE.end();
    }

    /** Places, WEIGHT, VAIN, BUILT 0 .. 99, ROOM 0 .. 5, YEAR 0 .. 999, bytes 0 .. 255. */
    private static void numbersAtTheirEnds() {
        StonesChoose x = new StonesChoose();
        int[] most = {99, 5, 99, 99};
        for (int b = 0; b < 5; b++) {
            for (int what = 0; what < 4; what++) {
                int was = x.site(b, what);
                DUE.is("4 the most", x.build(b, what, most[what]), was);
                DUE.is("4 the least", x.build(b, what, 0), most[what]);
                DUE.is("4 it is the least", x.site(b, what), 0);
                DUE.is("4 back", x.build(b, what, was), 0);
            }
        }
        DUE.is("3 the most", x.dawn(999), 0);
        DUE.is("3 the least", x.dawn(0), 999);
        DUE.is("10 the least", x.stone(0, 0, 0), 0);
        DUE.is("10 the most", x.stone(59, 99, 99), 1);
        DUE.is("11 the most", x.put(0, 0, 99), 0);
        DUE.is("11 the least", x.put(0, 0, 0), 99);
        DUE.is("11 the most", x.put(0, 1, 99), 0);
        DUE.is("11 the least", x.put(0, 1, 0), 99);
        DUE.is("6 bytes 0 and 255", x.feed(5, 0, 255, 0, 255, 0), 5);
    }

    /** "in thought it may pass 999": in every call that thinks years. */
    private static void thoughtPassesTheLastYear() {
        StonesChoose x = new StonesChoose();
        x.stone(0, 50, 5);
        Due.text(x, "likes 99 - far ; wants weight ; goes (999 < year) * 9 ;");
        x.force(1);
        x.dawn(999);
        DUE.is("14 truly it may not", x.year(), -3);
        DUE.is("15 behind 1000", x.run(2, 10), 41);
        DUE.is("15 behind 1001", x.run(3, 0), 3);
        DUE.is("15 behind 1001", x.run(40, 1), 0);
        DUE.is("16 behind 1001", x.when(0, -1), 3);
        DUE.is("21 at the first place it need not go", x.cart(0, 0), 0);
        DUE.is("28 a film", x.film(0, 0, 3), 3);
        DUE.is("23 of the film", x.judge(0, 0), -1);
        Due.row(x, 1, 0, 50, 41, 40);
        DUE.is("23 50, 41, 40", x.judge(1, 0), -1);
        DUE.is("24 only a stone", x.kinds(1, 0, 0), 1);
        DUE.is("25 only from 50", x.states(1, 0, 0, 0), 1);
        DUE.is("26 its", x.whose(1), 1);
        DUE.is("27 by this text", x.laws(1, 0), 2);
        DUE.is("29 weather", x.drawn(1, 0), 1);
        DUE.is("3 it is 999", x.dawn(0), 999);
        DUE.is("15 in year 0 it stays", x.run(40, 10), 50);
    }

    /** "WANTED as a SLAB in even YEARS", 1000 among them; and each year the one that is wanted more. */
    private static void convertIsWantedInEvenYears() {
        StonesChoose x = new StonesChoose();
        x.stone(0, 20, 50);
        x.stone(49, 20, 0);
        x.dawn(999);
        DUE.is("13 999", x.love(1, 1, 1), 0);
        DUE.is("15 999", x.run(1, 0), 20);
        DUE.is("15 1000", x.run(2, 0), 2);
        DUE.is("15 1001", x.run(3, 0), 20);
        x.dawn(0);
        DUE.is("13 0", x.love(1, 1, 1), 90);
    }

    /** "by how much AT and PLACE differ": be either more, or neither. */
    private static void far() {
        StonesChoose x = new StonesChoose();
        Due.text(x, "likes far" + REST);
        x.force(1);
        x.build(4, 0, 99);
        x.stone(0, 0, 0);
        DUE.is("9 99 below", x.asks(0, 0, 4), 99);
        DUE.is("9 there", x.asks(0, 0, 0), 0);
        x.put(0, 0, 99);
        DUE.is("9 99 above", x.asks(0, 0, 0), 99);
        DUE.is("9 there", x.asks(0, 0, 4), 0);
        DUE.is("9 of none 0", x.asks(0, 0, -1), 0);
    }

    /** "LIKES BUILDING (MORE modulo 5) 99, others half": by every MORE. */
    private static void lintelsByMore() {
        for (int kind = 1; kind <= 3; kind += 2) {
            for (int more = 0; more < 10; more++) {
                StonesChoose x = new StonesChoose();
                x.stone(10 * kind + more, 0, 0);
                for (int b = 0; b < 5; b++) {
                    DUE.is("13 MORE " + more + ", building " + b, x.love(0, b, 0),
                        more == b || more == b + 5 ? 99 : new int[] {49, 39, 29, 19, 9}[b]);
                }
                DUE.is("12 its wish", x.told(0, 5), more < 5 ? more : more - 5);
            }
        }
    }

    /** "GOES 0, if YEAR is below 10"; "GOES MORE more than a LINTEL". */
    private static void lintelInYearTen() {
        StonesChoose x = new StonesChoose();
        x.stone(11, 40, 0);
        x.stone(31, 40, 0);
        x.dawn(9);
        DUE.is("12 lintel, 9", x.told(0, 6), 0);
        DUE.is("12 step, 9", x.told(1, 6), 1);
        x.year();
        DUE.is("14 a lintel stays in 9", x.told(0, 0), 40);
        DUE.is("14 a step goes its MORE in 9", x.told(1, 0), 39);
        DUE.is("12 lintel, 10", x.told(0, 6), 9);
        DUE.is("12 step, 10", x.told(1, 6), 10);
        x.year();
        DUE.is("14 a lintel goes in 10", x.told(0, 0), 31);
        DUE.is("14 a step goes in 10", x.told(1, 0), 29);
    }

    /** "is it there, and the BUILDING TAKES it": also one that GOES 0; and one step short it is not there. */
    private static void lyingThereItNeedNotGo() {
        StonesChoose x = new StonesChoose();
        x.stone(10, 0, 5);
        x.stone(12, 41, 5);
        DUE.is("14 only the one that lies there", x.year(), 1);
        DUE.is("14 the other stays", x.told(1, 0), 41);
        StonesChoose y = new StonesChoose();
        y.stone(0, 29, 5);
        y.stone(0, 50, 5);
        DUE.is("14 by 9 it is just there", y.year(), 1);
        DUE.is("14 9 of 9", y.told(0, 0), 20);
        DUE.is("14 9 of 10", y.told(1, 0), 41);
        Due.text(y, "likes 99 - far ; wants 0 ; goes 0 - 5 ;");
        y.force(1);
        DUE.is("14 it never goes away", y.run(40, 11), 41);
    }

    /** "no further than there": by 108 from 0 to 99, and back. */
    private static void stepGoesFurtherThanThereIs() {
        StonesChoose x = new StonesChoose();
        Due.text(x, "likes 0 - 1 ; wants 0 ; goes 99 ;");
        x.force(1);
        x.dawn(10);
        x.build(4, 0, 99);
        x.stone(39, 0, 5);
        DUE.is("12 108", x.told(0, 6), 108);
        DUE.is("14 there", x.year(), 1);
        DUE.is("14 at 99", x.told(0, 0), 99);
        DUE.is("14 in 4", x.told(0, 2), 4);
        x.put(0, 0, 99);
        x.build(4, 0, 0);
        DUE.is("14 there", x.year(), 1);
        DUE.is("14 at 0", x.told(0, 0), 0);
    }

    /** "LIKES 0 less 1, if BUILT is above MORE; GOES 1": it may not like what it was built into. */
    private static void whiteAndWhatIsBuilt() {
        StonesChoose x = new StonesChoose();
        x.stone(59, 20, 5);
        x.build(1, 3, 9);
        DUE.is("13 BUILT 9, MORE 9", x.love(0, 1, 0), 99);
        x.build(1, 3, 10);
        DUE.is("13 BUILT 10, MORE 9", x.love(0, 1, 0), -1);
        DUE.is("12 it wishes elsewhere", x.told(0, 5), 0);
        StonesChoose y = new StonesChoose();
        y.stone(50, 20, 5);
        DUE.is("13 BUILT 0, MORE 0", y.love(0, 1, 0), 99);
        DUE.is("14 it comes in", y.year(), 1);
        DUE.is("13 BUILT 1, MORE 0", y.love(0, 1, 0), -1);
        DUE.is("17 it is in one that it likes by -1", y.peace(0), 9);
        DUE.is("17 liked", y.peace(1), -1);
        DUE.is("14 it stays in", y.year(), 0);
        DUE.is("14 it stays in", y.told(0, 2), 1);
    }

    private static int fault(String text) {
        return -100 - Due.text(new StonesChoose(), text);
    }

    /** What an expression says of a stone that lies at building 0. */
    private static int says(String likes) {
        StonesChoose x = new StonesChoose();
        x.stone(0, 0, 0);
        int t = Due.text(x, "likes " + likes + REST);
        x.force(t);
        return t == 1 ? x.asks(0, 0, 0) : t;
    }

    /** "TOKENS, each as long as can be". */
    private static void tokensAreAsLongAsCanBe() {
        DUE.is("7 notfar is one word", fault("likes notfar" + REST), 6);
        DUE.is("7 orfar is one word", fault("likes 1 orfar" + REST), 8);
        DUE.is("7 likesfar is one word", fault("likesfar" + REST), 0);
        DUE.is("7 a number ends a word", says("not1"), 0);
        DUE.is("7 a word ends a number", says("0or2"), 1);
        DUE.is("7 two numbers with a blank between", fault("likes 12 34" + REST), 9);
        DUE.is("7 a blank parts a number, too", fault("likes 1\n2" + REST), 8);
        DUE.is("7 a blank parts a word", fault("likes fa r" + REST), 6);
        DUE.is("7 9999", says("9999 = 9998 + 1"), 1);
        DUE.is("7 09999 is too long", fault("likes 09999" + REST), 6);
        DUE.is("7 no blanks between signs", says("(1)-(-(2))*3"), 7);
    }

    /** "as many letters a .. z as stand there", "as many digits". */
    private static void endsOfLettersAndDigits() {
        DUE.is("7 z is a letter", fault("likes farz" + REST), 6);
        DUE.is("7 a is a letter", fault("likes fara" + REST), 6);
        DUE.is("7 the byte ahead of a is none", fault("likes far`" + REST), 9);
        DUE.is("7 the byte behind z is none", fault("likes far{" + REST), 9);
        DUE.is("7 0 and 9 are digits", says("90"), 90);
        DUE.is("7 the byte ahead of 0 is none", fault("likes 1/" + REST), 7);
        DUE.is("7 the byte behind 9 is none", fault("likes 1:" + REST), 7);
        DUE.is("7 the byte ahead of a blank is none", fault("likes\u001f1" + REST), 5);
        DUE.is("7 the byte behind a blank is none", fault("likes!1" + REST), 5);
        DUE.is("7 the byte behind 10 is none", fault("likes\u000b1" + REST), 5);
        DUE.is("7 the last of 160 bytes", fault(" ".repeat(159) + "x"), 159);
        DUE.is("7 160 blanks end too early", fault(" ".repeat(160)), 160);
        DUE.is("7 nothing ends too early", fault(""), 0);
    }

    /** "An E is an int (32 bits, wrapping)". */
    private static void expressionsWrap() {
        String least = "4096*4096*128";
        DUE.is("7 times wraps to the least", says(least), -99);
        DUE.is("7 minus 1 wraps to the most", says(least + " - 1"), 99);
        DUE.is("7 and 1 wraps back", says("(" + least + " - 1) + 1"), -99);
        DUE.is("7 minus the least is the least", says("-(" + least + ")"), -99);
        DUE.is("7 0 less the least is the least", says("0 - " + least), -99);
        DUE.is("7 the least is less than 1, though 1 less is not", says(least + " < 1"), 1);
        DUE.is("7 the most is not less than -1", says(least + " - 1 < -1"), 0);
        DUE.is("7 twice the least is 0", says(least + " + " + least + " = 0"), 1);
    }

    /** "of or, and, not, <, = 1 or 0 (what is not 0 is true)". */
    private static void whatIsNotZeroIsTrue() {
        DUE.is("7 below 0 is true", says("not -1"), 0);
        DUE.is("7 what wraps to 0 is not", says("4096*4096*256 or 0"), 0);
        DUE.is("7 what wraps to the least is", says("4096*4096*128 and 1"), 1);
        DUE.is("7 both true are 1", says("(7 or 7) + (7 and 7)"), 2);
        DUE.is("7 equal ones are 1", says("(7 = 7) * 9"), 9);
        DUE.is("7 less ones are 1", says("(-7 < 7) * 9"), 9);
        DUE.is("7 bits do not count", says("1 and 2"), 1);
    }

    /** "likes, wants -99 .. 99, goes 0 .. 99, else the bound". */
    private static void boundsOfTheLaw() {
        int[] said = {-9999, -100, -99, -1, 0, 1, 99, 100, 9999};
        for (int v : said) {
            StonesChoose x = new StonesChoose();
            x.stone(0, 0, 0);
            Due.text(x, "likes " + v + " ; wants " + v + " ; goes " + v + " ;");
            x.force(1);
            int due = v < -99 ? -99 : v > 99 ? 99 : v;
            DUE.is("9 likes " + v, x.asks(0, 0, 0), due);
            DUE.is("9 likes of none " + v, x.asks(0, 0, -1), due);
            DUE.is("13 likes " + v, x.love(0, 3, 0), due);
            DUE.is("9 wants " + v, x.asks(1, 0, 0), due);
            DUE.is("13 wants " + v, x.love(0, 3, 1), due);
            DUE.is("9 goes " + v, x.asks(2, 0, 0), v < 0 ? 0 : due);
            DUE.is("12 goes " + v, x.told(0, 6), v < 0 ? 0 : due);
        }
    }

    /** "while 5 of these are open": each of the three as the sixth, behind five of each. */
    private static void openOnes() {
        String[] five = {"(((((", "not not not not not ", "-----", "not (-(- ", "not not ((-"};
        String[] end = {")))))", "", "", "))", "))"};
        for (int i = 0; i < five.length; i++) {
            DUE.is("7 five are open: " + five[i], fault("likes " + five[i] + "1" + end[i] + REST), -101);
            DUE.is("7 a sixth ( behind " + five[i], fault("likes " + five[i] + "(1)" + end[i] + REST), 6 + five[i].length());
            DUE.is("7 a sixth - behind " + five[i], fault("likes " + five[i] + "-1" + end[i] + REST), 6 + five[i].length());
            DUE.is("7 a sixth not behind " + five[i], fault("likes " + five[i] + "not 1" + end[i] + REST),
                6 + five[i].length());
            DUE.is("7 a - between is none", fault("likes " + five[i] + "1-1" + end[i] + REST), -101);
        }
        DUE.is("7 a ( is open till its )", fault("likes (((((1) + (1)))))" + REST), -101);
        DUE.is("7 a not is open till its NOT ends", fault("likes not (((((1))))) " + REST), 14);
        DUE.is("7 and no longer", fault("likes not 1 or (((((1)))))" + REST), -101);
        DUE.is("7 a - is open till its ONE ends", fault("likes - (((((1)))))" + REST), 12);
        DUE.is("7 and no longer", fault("likes - 1 * (((((1)))))" + REST), -101);
        DUE.is("7 behind five that are closed five can be open", fault("likes (((((1))))) + (((((1)))))" + REST), -101);
    }

    /** "doesn't LIKE by more than 0": by -5, by 0, and by 1 it does. */
    private static void notLikedByMoreThanZero() {
        int[] due = {9, 9, -1};
        for (int i = 0; i < 3; i++) {
            StonesChoose x = new StonesChoose();
            x.stone(0, 40, 5);
            x.year();
            Due.text(x, "likes (far = 0) * " + new int[] {-5, 0, 1}[i] + REST);
            x.force(1);
            DUE.is("17 in one", x.peace(0), due[i]);
            DUE.is("12 its wish", x.told(0, 5), i == 2 ? 2 : -1);
            DUE.is("18 it asks", x.court(0), i == 2 ? 3 : 0);
            DUE.is("19 one peace", x.all(0), 1);
            DUE.is("19 it is in", x.all(1), i == 2 ? 3 : 0);
            DUE.is("19 it is in", x.all(4), i == 2 ? 1 : 0);
            x.put(0, 0, 40);
            DUE.is("17 in none", x.peace(0), i == 2 ? 2 : -1);
            DUE.is("14 it comes in", x.year(), i == 2 ? 1 : 0);
        }
    }

    /** "10 times it, and 9", and the first building: of the last stone, and the last building. */
    private static void theLastOfAllIsAgainstPeace() {
        StonesChoose x = new StonesChoose();
        for (int p = 0; p < 5; p++) {
            x.stone(0, 20 * p, p == 4 ? 9 : 0);
        }
        DUE.is("14 all five come in", x.year(), 31);
        Due.text(x, "likes (weight = 9) * (far = 80)" + REST);
        x.force(1);
        DUE.is("17 the first", x.peace(0), 9);
        for (int p = 0; p < 4; p++) {
            x.put(p, 0, 20 * p);
        }
        DUE.is("17 the last is in one that it does not like, ahead of where it would rather be", x.peace(0), 49);
        x.put(4, 0, 80);
        DUE.is("17 the last would rather be in the first", x.peace(0), 40);
        x.put(4, 0, 0);
        DUE.is("17 the last would rather be in the last", x.peace(0), 44);
        x.build(4, 1, 0);
        DUE.is("17 there is room for none", x.peace(0), -1);
    }

    /** "there is ROOM for any": none for any, one for five, five for five. */
    private static void roomForAllAndForNobody() {
        StonesChoose x = new StonesChoose();
        for (int p = 0; p < 5; p++) {
            x.stone(0, 20, 10 + p);
        }
        x.build(1, 1, 0);
        DUE.is("14 no room for any", x.year(), 0);
        DUE.is("2 all are in none", x.count(2), 5);
        x.build(1, 1, 1);
        DUE.is("14 each casts out the one before", x.year(), 31);
        DUE.is("5 the last is in it", x.site(1, 4), 16);
        DUE.is("5 built by five", x.site(1, 3), 5);
        x.build(1, 1, 5);
        DUE.is("14 room for all others", x.year(), 15);
        DUE.is("5 all are in it", x.site(1, 4), 31);
        DUE.is("2 none is in none", x.count(2), 0);
        DUE.is("4 as many as are in it", x.build(1, 1, 5), 5);
        DUE.is("4 fewer", x.build(1, 1, 4), -7);
        DUE.is("15 all in one", x.run(0, 0), 22222);
        x.put(2, 0, 20);
        DUE.is("4 as many as are in it", x.build(1, 1, 4), 5);
        DUE.is("14 it is wanted more than the least wanted", x.year(), 4);
        DUE.is("5 the least wanted is out", x.site(1, 4), 30);
    }

    /** "were there ROOM for one more": also where there is room for five. */
    private static void annexOfFive() {
        StonesChoose x = new StonesChoose();
        for (int p = 0; p < 5; p++) {
            x.stone(0, 20, 10 + p);
        }
        x.build(1, 1, 5);
        DUE.is("20 all alike, the first", x.annex(0), 0);
        DUE.is("20 all have room", x.annex(1), 495);
        x.build(1, 1, 4);
        DUE.is("20 a fifth", x.annex(0), 1);
        DUE.is("20 a fifth", x.annex(1), 495);
        DUE.is("5 in thought", x.site(1, 1), 4);
    }

    /** "The place (0 .. 99)", "fewest YEARS (0 .. 60)". */
    private static void cartAtTheEnds() {
        StonesChoose x = new StonesChoose();
        for (int b = 0; b < 5; b++) {
            x.build(b, 0, 99);
        }
        Due.text(x, "likes 99 - far ; wants 0 ; goes 0 ;");
        x.force(1);
        x.stone(0, 0, 5);
        DUE.is("21 only the last place", x.cart(0, 0), 99);
        DUE.is("21 behind one", x.cart(0, 1), 1);
        for (int b = 0; b < 5; b++) {
            x.build(b, 0, 0);
        }
        DUE.is("21 only the first place", x.cart(0, 0), 0);
        DUE.is("21 behind one, never behind 0", x.cart(0, 1), 1);
        Due.text(x, "likes (year = 59) * 9 ; wants 0 ; goes 99 ;");
        x.force(2);
        DUE.is("21 behind 60", x.cart(0, 1), 60);
        DUE.is("16 behind 60", x.when(0, 0), 60);
        Due.text(x, "likes (year = 60) * 9 ; wants 0 ; goes 99 ;");
        x.force(3);
        DUE.is("21 behind 61 is by none", x.cart(0, 1), -1);
        DUE.is("21 behind 61 is by none", x.cart(0, 0), -1);
        DUE.is("16 behind 61 is not by then", x.when(0, 0), -1);
    }

    /** "bits": of all five stones, all six texts, all kinds, all MORE. */
    private static void allOfThem() {
        StonesChoose x = new StonesChoose();
        for (int p = 0; p < 5; p++) {
            x.stone(10 * p, 77, p);
        }
        for (int t = 1; t < 6; t++) {
            Due.text(x, "likes " + t + REST);
        }
        x.sheet(0, 0, 0);
        DUE.is("26 all five", x.whose(0), 31);
        DUE.is("27 all six", x.laws(0, 4), 63);
        DUE.is("24 all kinds", x.kinds(0, 4, 0), 63);
        DUE.is("24 all MORE", x.kinds(0, 4, 1), 1023);
        Due.row(x, 0, 0, 77);
        x.force(5);
        DUE.is("26 all five", x.whose(0), 31);
        DUE.is("27 none but the first goes", x.laws(0, 0), 62);
        DUE.is("24 all but a white one and a step of its MORE 0", x.kinds(0, 0, 0), 31);
        DUE.is("24 a step of MORE 0 only", x.kinds(0, 3, 1), 1);
    }

    /** "behind 1, 2, .. YEARS (20 at most)", "1, .., n YEARS (0 .. 20)". */
    private static void toldNothingAndTwenty() {
        StonesChoose x = new StonesChoose();
        x.stone(50, 50, 5);
        DUE.is("28 none", x.film(0, 0, 0), 0);
        DUE.is("23 none is otherwise", x.judge(0, 0), -1);
        DUE.is("28 twenty", x.film(0, 0, 20), 20);
        DUE.is("23 none is otherwise", x.judge(0, 0), -1);
        DUE.is("34 there is a twentieth", x.cell(0, 19, 39), 1);
        DUE.is("34 there is no more", x.cell(0, 20, 39), -12);
        DUE.is("23 the last is otherwise", x.judge(0, 0), 19);
        x.cell(0, 0, 48);
        DUE.is("23 the first is otherwise", x.judge(0, 0), 0);
        x.sheet(0, 0, 21);
        DUE.is("23 21 are too many", x.judge(0, 0), -2);
        x.sheet(0, 0, 40);
        DUE.is("23 40 are too many", x.judge(0, 0), -2);
    }

    /** "0 .. 99 each": the least and the most of them are tried. */
    private static void statesAtTheEnds() {
        StonesChoose x = new StonesChoose();
        Due.text(x, "likes 0" + REST);
        x.force(1);
        x.stone(0, 50, 50);
        for (int v = 0; v < 100; v += 99) {
            Due.row(x, 0, 0, v, v);
            DUE.is("25 AT " + v, x.states(0, 0, 0, 0), 1);
            DUE.is("25 AT " + v, x.states(0, 0, 0, 1), v);
        }
        Due.text(x, "likes 99 - far ; wants 0 ; goes (weight = 99) * 7 ;");
        Due.text(x, "likes 99 - far ; wants 0 ; goes (weight = 0) * 7 ;");
        Due.row(x, 0, 0, 43);
        x.force(2);
        DUE.is("25 WEIGHT 99", x.states(0, 0, 1, 0), 1);
        DUE.is("25 WEIGHT 99", x.states(0, 0, 1, 1), 99);
        x.force(3);
        DUE.is("25 WEIGHT 0", x.states(0, 0, 1, 0), 1);
        DUE.is("25 WEIGHT 0", x.states(0, 0, 1, 1), 0);
    }

    /** "the first number that is otherwise": also one that no place can be. */
    private static void numbersThatNoStoneHas() {
        StonesChoose x = new StonesChoose();
        x.stone(0, 0, 5);
        int[] others = {100, -1, 256, Integer.MAX_VALUE, Integer.MIN_VALUE};
        for (int v : others) {
            Due.row(x, 0, 2, v);
            DUE.is("23 " + v, x.judge(0, 0), 0);
            DUE.is("24 " + v, x.kinds(0, 0, 0), 0);
            DUE.is("25 " + v, x.states(0, 0, 0, 0), 0);
            DUE.is("26 " + v, x.whose(0), 0);
            DUE.is("27 " + v, x.laws(0, 0), 0);
        }
    }

    /** "AN IMAGE keeps all of BUILDINGS, AT, WEIGHT, IN of all STONES": of all five, and so does a thought. */
    private static void imageKeepsAllOfAll() {
        StonesChoose x = new StonesChoose();
        for (int i = 0; i < 5; i++) {
            x.build(i, 0, 90 - 7 * i);
            x.build(i, 1, 1 + i);
            x.build(i, 2, 11 + i);
            x.build(i, 3, 21 + i);
            x.stone(11 * i, 90 - 7 * i, 41 + i);
        }
        DUE.is("14 all come in", x.year(), 31);
        int[] in = new int[5];
        int[] at = new int[5];
        int[] built = new int[5];
        for (int i = 0; i < 5; i++) {
            in[i] = x.told(i, 2);
            at[i] = x.told(i, 0);
            built[i] = x.site(i, 3);
        }
        DUE.is("31 all five", x.image(), 5);
        for (int i = 0; i < 5; i++) {
            x.put(i, 0, 3);
            x.put(i, 1, 3);
            x.build(i, 0, 3);
            x.build(i, 1, 0);
            x.build(i, 2, 3);
            x.build(i, 3, 3);
        }
        x.year();
        DUE.is("32 all five", x.back(), 5);
        DUE.is("15 and so in thought", x.run(0, 1), 0);
        for (int i = 0; i < 5; i++) {
            DUE.is("32 IN of " + i, x.told(i, 2), in[i]);
            DUE.is("32 AT of " + i, x.told(i, 0), at[i]);
            DUE.is("15 AT of " + i, x.run(0, 10 + i), at[i]);
            DUE.is("32 WEIGHT of " + i, x.told(i, 1), 41 + i);
            DUE.is("32 KIND of " + i, x.told(i, 3), i);
            DUE.is("32 MORE of " + i, x.told(i, 4), i);
            DUE.is("32 PLACE of " + i, x.site(i, 0), 90 - 7 * i);
            DUE.is("32 ROOM of " + i, x.site(i, 1), 1 + i);
            DUE.is("32 VAIN of " + i, x.site(i, 2), 11 + i);
            DUE.is("32 BUILT of " + i, x.site(i, 3), built[i]);
        }
    }

    /** "the first is (SEED and 1) times 48271"; "STONE LOT modulo 5, if there is one": by hand, for one stone from 99. */
    private static void lots() {
        StonesChoose x = new StonesChoose();
        x.stone(0, 99, 5);
        DUE.is("29 seed 0 never draws stone 0: as in eight years", x.drawn(0, 0), 5);
        DUE.is("29 seed 1 draws it thrice, last to 10, from where it goes to 0", x.drawn(1, 0), 1);
        DUE.is("29 seed 9 draws it last to 55", x.drawn(9, 0), 4);
        DUE.is("29 seed 99999 draws it last to 3", x.drawn(99999, 0), 1);
        DUE.is("29 it is in one", x.drawn(99999, 1), 0);
        DUE.is("30 by 99999, 100000 it is in one", x.odds(99999, 2, 0, 0), 1);
        DUE.is("30 by 99999, 100000 it is in one", x.odds(99999, 2, 0, 1), 1);
        DUE.is("30 100001 draws it last to 94, which is too far", x.odds(99999, 3, 0, 0), 2);
        DUE.is("30 100001 draws it last to 94, which is too far", x.odds(99999, 3, 0, 1), 3);
        StonesChoose y = new StonesChoose();
        for (int seed = 0; seed < 3; seed++) {
            DUE.is("29 nobody", y.drawn(seed, 0), 0);
            DUE.is("29 nobody", y.drawn(seed, 1), 0);
        }
        DUE.is("30 nobody", y.odds(0, 40, 0, 0), 1);
        DUE.is("30 nobody", y.odds(0, 40, 0, 1), 1);
    }

    /** "By how many of so many (1 .. 40) seeds". */
    private static void oneSeedAndForty() {
        StonesChoose x = new StonesChoose();
        x.build(4, 1, 0);
        x.stone(0, 99, 5);
        x.stone(31, 44, 7);
        x.stone(50, 70, 1);
        int[] good = new int[4];
        for (int seed = 0; seed < 40; seed++) {
            int out = x.drawn(seed, 1);
            for (int most = out; most < 4; most++) {
                good[most]++;
            }
            DUE.is("30 one seed", x.odds(seed, 1, 1, 0), out <= 1 ? 1 : 0);
            DUE.is("30 one seed", x.odds(seed, 1, 1, 1), 1);
        }
        for (int most = 0; most < 4; most++) {
            long above = x.odds(0, 40, most, 0);
            long below = x.odds(0, 40, most, 1);
            DUE.is("30 forty seeds, " + most, above * 40, good[most] * below);
            DUE.is("30 in lowest terms", common(above, below), 1);
        }
        DUE.is("30 never", good[0], 0);
        DUE.is("30 now and then", good[1] > 0 && good[1] < 40 ? 1 : 0, 1);
        DUE.is("30 ever", good[3], 40);
        DUE.is("30 most 5", x.odds(0, 40, 5, 0), 1);
    }

    private static long common(long a, long b) {
        return b == 0 ? a : common(b, a % b);
    }

    /** "rows of numbers .. 40 at most". */
    private static void rowsOfForty() {
        StonesChoose x = new StonesChoose();
        x.stone(0, 0, 5);
        x.sheet(0, 1, 40);
        for (int i = 0; i < 40; i++) {
            DUE.is("34 of forty", x.cell(0, i, 60 + i), 1);
        }
        x.sheet(1, 1, 40);
        DUE.is("35 all forty", x.copy(0, 0, 1, 0, 40), 40);
        DUE.is("35 41", x.copy(0, 0, 1, 0, 41), -12);
        DUE.is("35 39 upward", x.copy(1, 0, 1, 1, 39), 39);
        DUE.is("35 the fortieth", x.copy(1, 39, 1, 0, 1), 1);
        x.sheet(2, 1, 2);
        x.copy(1, 0, 2, 0, 2);
        DUE.is("36 98, 60 are no KIND and no place", x.copy(1, 39, 2, 1, 1), 1);
        x.sheet(3, 1, 3);
        x.copy(1, 38, 3, 1, 2);
        DUE.is("36 a stone by three of them", x.stonesBy(3, 1, 0, 1), 1);
        DUE.is("36 number 38 came from 37", x.told(1, 0), 97);
        DUE.is("36 number 39 came from 38", x.told(1, 1), 98);
        x.sheet(0, 0, 40);
        DUE.is("33 it is of another sort", x.copy(0, 0, 1, 0, 0), -13);
        DUE.is("33 and of 40", x.cell(0, 39, 1), 1);
    }

    /** "A SHEET becomes a row of n of a sort, all 0": whatever stood in it. */
    private static void rowsAreAllZero() {
        for (int sort = 0; sort < 3; sort++) {
            StonesChoose x = new StonesChoose();
            x.stone(0, 0, 5);
            x.sheet(0, 2 - sort, 40);
            for (int i = 0; i < 40; i++) {
                x.cell(0, i, 50 + i);
            }
            x.sheet(0, -1, 0);
            DUE.is("33 a row of 40", x.sheet(0, sort, 40), 1);
            x.sheet(1, sort, 20);
            DUE.is("33 the first twenty", x.copy(0, 0, 1, 0, 20), 20);
            DUE.is("33 they are all 0", x.judge(1, 0), -1);
            DUE.is("33 the other twenty", x.copy(0, 20, 1, 0, 20), 20);
            DUE.is("33 they are all 0", x.judge(1, 0), -1);
        }
    }

    /** "n of them (0 .. 5) .. others are left out". */
    private static void stonesByFives() {
        StonesChoose x = new StonesChoose();
        x.sheet(0, 0, 15);
        DUE.is("36 five of 15", x.stonesBy(0, 0, 0, 5), 5);
        DUE.is("36 it is full", x.count(0), 5);
        DUE.is("36 five are left out", x.stonesBy(0, 0, 0, 5), 0);
        StonesChoose y = new StonesChoose();
        y.sheet(0, 0, 14);
        DUE.is("36 five of 14", y.stonesBy(0, 0, 0, 5), -12);
        DUE.is("36 four came", y.count(0), 4);
        StonesChoose z = new StonesChoose();
        Due.row(z, 0, 0, 60, 0, 0, 0, 100, 0, 0, 0, 100, -1, 0, 0, 59, 99, 99);
        DUE.is("36 four are left out", z.stonesBy(0, 0, 0, 5), 1);
        DUE.is("36 the fifth is the first that came", z.told(0, 3), 5);
        z.sheet(1, 0, 0);
        DUE.is("36 none of none", z.stonesBy(1, 0, 0, 0), 0);
        DUE.is("36 one of none", z.stonesBy(1, 0, 0, 1), -12);
    }
}

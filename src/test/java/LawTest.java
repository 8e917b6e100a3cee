/** Promises 6 to 9: feed, text with its faults, force, asks. */
public final class LawTest {
    private static final Due DUE = new Due("LawTest");
    private static final String REST = " ; wants 0 ; goes 0 ;";

    public static void main(String[] args) {
        feed();
        feedFills();
        texts();
        textsAreFull();
        valuesOfSigns();
        valuesOfWords();
        valuesWrapAndBound();
        faultsOfOrder();
        faultsOfTokens();
        faultsOfEnds();
        faultsOfEachToken();
        depth();
        longTexts();
        waits();
        force();
        asks();
        asksRefuses();
        DUE.end();
    }

    private static void feed() {
        StonesChoose x = new StonesChoose();
        DUE.is("6 n 0", x.feed(0, 1, 1, 1, 1, 1), -2);
        DUE.is("6 n 6", x.feed(6, 1, 1, 1, 1, 1), -2);
        DUE.is("6 a below", x.feed(1, -1, 0, 0, 0, 0), -2);
        DUE.is("6 b below", x.feed(1, 0, -1, 0, 0, 0), -2);
        DUE.is("6 c below", x.feed(1, 0, 0, -1, 0, 0), -2);
        DUE.is("6 d below", x.feed(1, 0, 0, 0, -1, 0), -2);
        DUE.is("6 e below", x.feed(1, 0, 0, 0, 0, -1), -2);
        DUE.is("6 a above", x.feed(1, 256, 0, 0, 0, 0), -2);
        DUE.is("6 b above", x.feed(1, 0, 256, 0, 0, 0), -2);
        DUE.is("6 c above", x.feed(1, 0, 0, 256, 0, 0), -2);
        DUE.is("6 d above", x.feed(1, 0, 0, 0, 256, 0), -2);
        DUE.is("6 e above", x.feed(1, 0, 0, 0, 0, 256), -2);
        DUE.is("6 nothing came", x.count(5), 0);
        for (int n = 1; n <= 5; n++) {
            DUE.is("6 n of them", x.feed(n, 255, 0, 255, 0, 255), n * (n + 1) / 2);
        }
        DUE.is("6 in their order", ordered(), 1);
    }

    /** The tape is "likes1;wants2;goes3;" if each byte comes behind the one told ahead of it. */
    private static int ordered() {
        StonesChoose x = new StonesChoose();
        x.feed(5, 'l', 'i', 'k', 'e', 's');
        x.feed(4, '1', ';', 'w', 'a', 'x');
        x.feed(3, 'n', 't', 's', 'x', 'x');
        x.feed(2, '2', ';', 'x', 'x', 'x');
        x.feed(1, 'g', 'x', 'x', 'x', 'x');
        x.feed(5, 'o', 'e', 's', '3', ';');
        return x.text();
    }

    private static void feedFills() {
        StonesChoose x = new StonesChoose();
        for (int i = 0; i < 31; i++) {
            x.feed(5, 32, 32, 32, 32, 32);
        }
        DUE.is("6 155", x.count(5), 155);
        DUE.is("6 157", x.feed(2, 32, 32, 32, 32, 32), 157);
        DUE.is("6 full, none comes", x.feed(4, 32, 32, 32, 32, 32), -4);
        DUE.is("6 bad ahead of full", x.feed(4, 32, 32, 32, 32, 256), -2);
        DUE.is("6 157 still", x.count(5), 157);
        DUE.is("6 160", x.feed(3, 32, 32, 32, 32, 32), 160);
        DUE.is("6 full", x.feed(1, 32, 32, 32, 32, 32), -4);
        DUE.is("7 only blanks", x.text(), -260);
        DUE.is("6 room again", x.feed(5, 32, 32, 32, 32, 32), 5);
    }

    private static void texts() {
        StonesChoose x = new StonesChoose();
        DUE.is("7 an empty tape", x.text(), -100);
        DUE.is("7 a text", Due.text(x, "likes 99 - far ; wants weight ; goes 9 ;"), 1);
        DUE.is("7 the tape is empty", x.count(5), 0);
        DUE.is("7 without blanks", Due.text(x, "likes1;wants2;goes3;"), 2);
        DUE.is("7 with blanks", Due.text(x, " \n likes \n1 ; wants 2;\n\ngoes 3 ; \n "), 3);
        DUE.is("7 a fault", Due.text(x, "likes 1; wants 2; goes 3"), -124);
        DUE.is("7 the tape is empty by a fault, too", x.count(5), 0);
        DUE.is("7 texts", x.count(3), 4);
        DUE.is("7 the law stays", x.count(4), 0);
    }

    private static void textsAreFull() {
        StonesChoose x = new StonesChoose();
        for (int t = 1; t < 6; t++) {
            DUE.is("7 a text", Due.text(x, "likes " + t + REST), t);
        }
        DUE.is("7 full", Due.text(x, "likes 6" + REST), -4);
        DUE.is("7 the tape stays", x.count(5), 28);
        DUE.is("7 full ahead of the fault", x.feed(1, 'x', 0, 0, 0, 0), 29);
        DUE.is("7 full ahead of the fault", x.text(), -4);
        DUE.is("7 the tape stays", x.count(5), 29);
        DUE.is("7 six texts", x.count(3), 6);
        DUE.is("7 all can be the law", x.force(5), 0);
        x.stone(0, 0, 0);
        DUE.is("7 the last says", x.asks(0, 0, 0), 5);
    }

    /** What an expression says of a stone (AT 30, WEIGHT 40, MORE 7) and building 1 in year 12. */
    private static int says(String likes) {
        StonesChoose x = new StonesChoose();
        x.stone(7, 30, 40);
        x.dawn(12);
        x.build(1, 2, 3);
        x.build(1, 3, 5);
        int t = Due.text(x, "likes " + likes + REST);
        if (t != 1) {
            return t;
        }
        x.force(1);
        return x.asks(0, 0, 1);
    }

    private static void valuesOfSigns() {
        DUE.is("7 sum", says("5 + 6 - 8 + 1"), 4);
        DUE.is("7 minus from the left", says("9 - 4 - 3"), 2);
        DUE.is("7 times ahead of plus", says("2 + 3 * 4"), 14);
        DUE.is("7 times ahead of minus", says("20 - 3 * 4"), 8);
        DUE.is("7 brackets", says("(2 + 3) * 4"), 20);
        DUE.is("7 minus ahead of one", says("- 5 * - 3"), 15);
        DUE.is("7 minus of brackets", says("-(5 - 9)"), 4);
        DUE.is("7 minus minus", says("7 - - 3"), 10);
        DUE.is("7 less", says("3 < 4"), 1);
        DUE.is("7 not less", says("4 < 4"), 0);
        DUE.is("7 less by sign", says("-4 < 3"), 1);
        DUE.is("7 equal", says("2 + 2 = 4"), 1);
        DUE.is("7 not equal", says("4 = 5"), 0);
        DUE.is("7 sums are compared", says("1 + 1 < 1 + 2"), 1);
        DUE.is("7 a compared one in brackets", says("(1 < 2) + (2 < 3)"), 2);
        DUE.is("7 a number of 4", says("9999 - 9990"), 9);
        DUE.is("7 0 ahead", says("0012"), 12);
    }

    private static void valuesOfWords() {
        DUE.is("7 and", says("1 and 2"), 1);
        DUE.is("7 and 0", says("2 and 0"), 0);
        DUE.is("7 0 and", says("0 and 2"), 0);
        DUE.is("7 or", says("0 or 7"), 1);
        DUE.is("7 or 0", says("7 or 0"), 1);
        DUE.is("7 or of none", says("0 or 0"), 0);
        DUE.is("7 and ahead of or", says("1 or 1 and 0"), 1);
        DUE.is("7 and ahead of or", says("0 and 1 or 1"), 1);
        DUE.is("7 brackets ahead of and", says("(1 or 1) and 0"), 0);
        DUE.is("7 not", says("not 0"), 1);
        DUE.is("7 not 5", says("not 5"), 0);
        DUE.is("7 not not", says("not not 5"), 1);
        DUE.is("7 not of what is compared", says("not 1 < 0"), 1);
        DUE.is("7 not ahead of and", says("not 1 and 0"), 0);
        DUE.is("7 minus is true", says("-1 and -2"), 1);
        DUE.is("7 less ahead of and", says("2 and 1 < 2"), 1);
        DUE.is("7 alone it stays", says("5"), 5);
        DUE.is("7 far", says("far"), 10);
        DUE.is("7 vain", says("vain"), 3);
        DUE.is("7 built", says("built"), 5);
        DUE.is("7 weight", says("weight"), 40);
        DUE.is("7 year", says("year"), 12);
        DUE.is("7 more", says("more"), 7);
        DUE.is("7 all", says("far+vain*built-weight+year*more"), 69);
    }

    private static void valuesWrapAndBound() {
        DUE.is("9 the upper bound", says("100"), 99);
        DUE.is("9 99", says("99"), 99);
        DUE.is("9 the lower bound", says("-100"), -99);
        DUE.is("9 -99", says("-99"), -99);
        DUE.is("7 wraps", says("9999*9999*9999"), -99);
        DUE.is("7 wraps", says("9999*9999*43 + 1"), 99);
        DUE.is("7 wraps below", says("9999*9999*22"), -99);
        DUE.is("7 wraps to 0", says("4096*4096*256"), 0);
        DUE.is("7 wraps to 7", says("4096*4096*256 + 7"), 7);
        DUE.is("7 the least is below its minus", says("-(4096*4096*128) < 0"), 1);
        DUE.is("7 the least wraps", says("4096*4096*128 - 1 < 0"), 0);
    }

    private static int fault(String text) {
        return -100 - Due.text(new StonesChoose(), text);
    }

    private static void faultsOfOrder() {
        DUE.is("7 no likes", fault("wants 1;"), 0);
        DUE.is("7 likes twice", fault("likes 1; likes 1; goes 1;"), 9);
        DUE.is("7 no goes", fault("likes 1; wants 1; wants 1;"), 18);
        DUE.is("7 nothing behind likes", fault("likes ; wants 1; goes 1;"), 6);
        DUE.is("7 a key as a name", fault("likes wants; wants 1; goes 1;"), 6);
        DUE.is("7 two ones", fault("likes 1 far" + REST), 8);
        DUE.is("7 two signs", fault("likes 1 + * 2" + REST), 10);
        DUE.is("7 plus ahead of a one", fault("likes + 2" + REST), 6);
        DUE.is("7 compared twice", fault("likes 1 < 2 < 3" + REST), 12);
        DUE.is("7 compared twice", fault("likes 1 = 2 < 3" + REST), 12);
        DUE.is("7 not behind plus", fault("likes 1 + not 2" + REST), 10);
        DUE.is("7 not behind less", fault("likes 1 < not 2" + REST), 10);
        DUE.is("7 not behind minus", fault("likes - not 2" + REST), 8);
        DUE.is("7 not behind a one", fault("likes 1 not 2" + REST), 8);
        DUE.is("7 or of one", fault("likes 1 or" + REST), 11);
        DUE.is("7 and or", fault("likes 1 and or 2" + REST), 12);
        DUE.is("7 brackets without a one", fault("likes ()" + REST), 7);
        DUE.is("7 a bracket that is not open", fault("likes 1)" + REST), 7);
        DUE.is("7 a bracket that stays open", fault("likes (1 ;" + REST), 9);
        DUE.is("7 behind the text", fault("likes 1; wants 2; goes 3; ;"), 26);
        DUE.is("7 behind the text", fault("likes 1; wants 2; goes 3;likes 1;"), 25);
    }

    private static void faultsOfTokens() {
        DUE.is("7 no such word", fault("likes fare" + REST), 6);
        DUE.is("7 a word as long as can be", fault("likes farvain" + REST), 6);
        DUE.is("7 a part of a word", fault("likes fa" + REST), 6);
        DUE.is("7 a word behind a number", fault("likes 5far" + REST), 7);
        DUE.is("7 a key that has a number behind it", fault("likes5" + REST), -101);
        DUE.is("7 a number that is too long", fault("likes 10000" + REST), 6);
        DUE.is("7 zeros count, too", fault("likes 1+00000" + REST), 8);
        DUE.is("7 a very long number", fault("likes 4294967297429496729742949672974294967297" + REST), 6);
        DUE.is("7 a capital", fault("likes Far" + REST), 6);
        DUE.is("7 a capital in a word", fault("likes fAr" + REST), 6);
        DUE.is("7 a byte that begins none", fault("likes 1 / 2" + REST), 8);
        DUE.is("7 byte 0", fault("\u0000"), 0);
        DUE.is("7 byte 9", fault("likes\t1" + REST), 5);
        DUE.is("7 byte 13", fault("likes 1\r" + REST), 7);
        DUE.is("7 byte 255", fault("likes 1 \u00ff" + REST), 8);
        DUE.is("7 beside the letters", fault("likes `" + REST), 6);
        DUE.is("7 beside the letters", fault("likes {" + REST), 6);
        DUE.is("7 beside the digits", fault("likes :" + REST), 6);
        DUE.is("7 more", fault("likes 1 > 0" + REST), 8);
        DUE.is("7 only the first", fault("likes 1 1 fare 10000 /" + REST), 8);
        DUE.is("7 words of keys", fault("like 1" + REST), 0);
    }

    private static void faultsOfEnds() {
        DUE.is("7 too early", fault("likes"), 5);
        DUE.is("7 too early, blanks behind", fault("likes \n "), 8);
        DUE.is("7 too early", fault("likes 1"), 7);
        DUE.is("7 too early", fault("likes 1;"), 8);
        DUE.is("7 too early", fault("likes 1; wants 2; goes 3"), 24);
        DUE.is("7 too early", fault("likes 1 +"), 9);
        DUE.is("7 too early", fault("likes (1"), 8);
        DUE.is("7 too early", fault("likes not"), 9);
    }

    /** At each token of a text any other that can't stand there is the fault. */
    private static void faultsOfEachToken() {
        String[] text = {"likes", "far", ";", "wants", "7", ";", "goes", "(", "more", ")", ";"};
        String[] none = {"", "", "or and + - * < =", "", "", "or and + - * < =", "", "", "or and + - * < =",
            "or and + - * < =", "or and + - * < ="};
        String others = "likes wants goes or and not far vain built weight year more 7 8888 10000 ( ) ; + - * < = / nott";
        String ones = "not far vain built weight year more 7 8888 ( -";
        StringBuilder ahead = new StringBuilder();
        for (int i = 0; i <= text.length; i++) {
            boolean isOne = i < text.length && "far 7 ( more".contains(text[i]);
            for (String other : others.split(" ")) {
                boolean stands = i < text.length && other.equals(text[i])
                    || (i < text.length && (" " + none[i] + " ").contains(" " + other + " "))
                    || isOne && (" " + ones + " ").contains(" " + other + " ");
                if (!stands) {
                    DUE.is("7 " + other + " behind " + ahead, fault(ahead + other + " ; far"), ahead.length());
                }
            }
            ahead.append(i < text.length ? text[i] + " " : "");
        }
    }

    /** Texts that fill the tape, as many as there can be, each with as many tokens as can be. */
    private static void longTexts() {
        StonesChoose x = new StonesChoose();
        x.stone(0, 0, 0);
        for (int t = 1; t < 6; t++) {
            String text = "likes" + t + "+0".repeat(68) + ";wants" + t + t + ";goes3" + t + ";  ";
            DUE.is("7 the tape is full", text.length(), 160);
            DUE.is("7 a long text", Due.text(x, text), t);
        }
        for (int t = 1; t < 6; t++) {
            x.force(t);
            DUE.is("7 a long text says", x.asks(0, 0, 0), t);
            DUE.is("7 a long text says", x.asks(1, 0, 0), 11 * t);
            DUE.is("7 a long text says", x.asks(2, 0, 0), 30 + t);
        }
    }

    private static void depth() {
        DUE.is("7 five brackets", says("(((((8)))))"), 8);
        DUE.is("7 six brackets", fault("likes ((((((8))))))" + REST), 11);
        DUE.is("7 five nots", says("not not not not not 8"), 0);
        DUE.is("7 six nots", fault("likes not not not not not not 8" + REST), 26);
        DUE.is("7 five minus", says("- - - - - 8"), -8);
        DUE.is("7 six minus", fault("likes - - - - - - 8" + REST), 16);
        DUE.is("7 mixed, five", says("not (-(-8))"), 0);
        DUE.is("7 mixed, a sixth bracket", fault("likes not (-(-(8)))" + REST), 14);
        DUE.is("7 mixed, a sixth minus", fault("likes not (-(--8))" + REST), 14);
        DUE.is("7 mixed, a sixth not", fault("likes ((-((not 1))))" + REST), 11);
        DUE.is("7 a minus between is none of these", says("(((((8 - 1 - 1 - 1)))))"), 5);
        DUE.is("7 a bracket ends", says("((((1)+(2))+((3)+(((4)))))))"), -125);
        DUE.is("7 a bracket ends", says("((((1)+(2))+((3)+(4)))) + (((((5)))))"), 15);
        DUE.is("7 a minus ends with its one", says("-1 * -1 * -1 * -1 * -1 * -1 * -2"), -2);
        DUE.is("7 a not ends with its not", says("not 0 and not 0 and not 0 and not 0 and not 0 and not 0"), 1);
        DUE.is("7 a not is open till what is compared ends", fault("likes not 1 < ((((( 2" + REST), 18);
        DUE.is("7 a minus is not", fault("likes -1 < (((((2" + REST), 18);
        DUE.is("7 open in one E is none of another's", bothDeep(), 1);
    }

    /** In each of five brackets, and inside of all, five values wait for what stands behind them. */
    private static void waits() {
        String level = "0or1and1<1+1*(";
        String all = level + level + level + level + level;
        DUE.is("7 as much waits as can", says(all + "0or1and1<1+1*1)))))"), 1);
        DUE.is("7 as much waits as can", says(all + "0or1and1<1+1*0)))))"), 0);
    }

    private static int bothDeep() {
        return Due.text(new StonesChoose(), "likes (((((1))))); wants (((((1))))); goes -----1;");
    }

    private static void force() {
        StonesChoose x = new StonesChoose();
        DUE.is("8 below", x.force(-1), -2);
        DUE.is("8 above", x.force(1), -2);
        DUE.is("8 itself", x.force(0), 0);
        Due.text(x, "likes 11 ; wants 22 ; goes 33 ;");
        Due.text(x, "likes 44 ; wants 55 ; goes 66 ;");
        x.stone(0, 0, 0);
        DUE.is("8 was", x.force(2), 0);
        DUE.is("8 is", x.count(4), 2);
        DUE.is("8 it says", x.asks(1, 0, 0), 55);
        DUE.is("8 was", x.force(1), 2);
        DUE.is("8 it says", x.asks(1, 0, 0), 22);
        DUE.is("8 above", x.force(3), -2);
        DUE.is("8 still", x.count(4), 1);
        DUE.is("8 back", x.force(0), 1);
        DUE.is("8 it says", x.asks(0, 0, 1), 79);
    }

    private static void asks() {
        StonesChoose x = new StonesChoose();
        x.stone(12, 50, 60);
        x.build(3, 2, 30);
        x.build(3, 3, 4);
        DUE.is("9 likes", x.asks(0, 0, 1), 69);
        DUE.is("9 likes of none", x.asks(0, 0, -1), 99);
        DUE.is("9 wants", x.asks(1, 0, 1), 60);
        DUE.is("9 goes", x.asks(2, 0, -1), 9);
        DUE.is("9 of the text, not of the kind", x.love(0, 2, 0), 99);
        DUE.is("9 of the text, not of the kind", x.asks(0, 0, 2), 89);
        Due.text(x, "likes far*9 + vain ; wants 0 - built * 100 ; goes far + vain + built - 30 ;");
        x.force(1);
        DUE.is("9 likes", x.asks(0, 0, 2), 90);
        DUE.is("9 likes, bounded", x.asks(0, 0, 3), 99);
        DUE.is("9 likes of none", x.asks(0, 0, -1), 0);
        DUE.is("9 wants, bounded", x.asks(1, 0, 3), -99);
        DUE.is("9 wants of none", x.asks(1, 0, -1), 0);
        DUE.is("9 goes takes those of the call", x.asks(2, 0, 3), 14);
        DUE.is("9 goes, bounded", x.asks(2, 0, 2), 0);
        DUE.is("9 goes of none, bounded", x.asks(2, 0, -1), 0);
        Due.text(x, "likes more ; wants year ; goes weight * 2 ;");
        x.force(2);
        x.dawn(98);
        DUE.is("9 more", x.asks(0, 0, -1), 2);
        DUE.is("9 year", x.asks(1, 0, -1), 98);
        DUE.is("9 goes, bounded", x.asks(2, 0, -1), 99);
    }

    private static void asksRefuses() {
        StonesChoose x = new StonesChoose();
        DUE.is("9 no stone", x.asks(0, 0, 0), -1000);
        x.stone(0, 0, 0);
        DUE.is("9 a stone", x.asks(0, 0, 0), 99);
        DUE.is("9 part below", x.asks(-1, 0, 0), -1000);
        DUE.is("9 part above", x.asks(3, 0, 0), -1000);
        DUE.is("9 stone below", x.asks(0, -1, 0), -1000);
        DUE.is("9 stone above", x.asks(0, 1, 0), -1000);
        DUE.is("9 building below", x.asks(0, 0, -2), -1000);
        DUE.is("9 building above", x.asks(0, 0, 5), -1000);
    }
}

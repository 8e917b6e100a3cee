/** Promises 29 to 32: drawn, odds, image, back. */
public final class WeatherTest {
    private static final Due DUE = new Due("WeatherTest");

    public static void main(String[] args) {
        drawn();
        drawnRefuses();
        odds();
        oddsRefuses();
        image();
        backToFewer();
        DUE.end();
    }

    /** What weather leaves, by calls for its eight years. */
    private static int[] played(StonesChoose x, int seed) {
        long lot = seed + 1;
        for (int i = 0; i < 8; i++) {
            lot = lot * 48271 % 2147483647;
            int p = (int) (lot % 5);
            lot = lot * 48271 % 2147483647;
            x.put(p, 0, (int) (lot % 100));
            x.year();
        }
        int digits = 0;
        int out = 0;
        for (int p = 0; p < x.count(0); p++) {
            digits = digits * 10 + x.told(p, 2) + 1;
            out += x.told(p, 2) == -1 ? 1 : 0;
        }
        return new int[] {digits, out};
    }

    private static StonesChoose world(int stones) {
        StonesChoose x = new StonesChoose();
        x.build(2, 1, 2);
        for (int p = 0; p < stones; p++) {
            x.stone((37 * p + 13 * stones) % 60, 17 * p, 90 - 20 * p);
        }
        return x;
    }

    private static void drawn() {
        int[] seeds = {0, 1, 2, 3, 7, 50, 999, 12345, 99999};
        for (int stones = 0; stones <= 5; stones++) {
            StonesChoose x = world(stones);
            for (int seed : seeds) {
                int[] due = played(world(stones), seed);
                DUE.is("29 digits, seed " + seed, x.drawn(seed, 0), due[0]);
                DUE.is("29 in none, seed " + seed, x.drawn(seed, 1), due[1]);
            }
            DUE.is("29 in thought", x.count(1), 0);
            DUE.is("29 in thought", x.count(2), stones);
        }
        StonesChoose y = world(5);
        y.dawn(999);
        DUE.is("29 past year 999", y.drawn(3, 1) >= 0 ? 1 : 0, 1);
    }

    private static void drawnRefuses() {
        StonesChoose x = world(2);
        DUE.is("29 seed below", x.drawn(-1, 0), -2);
        DUE.is("29 seed above", x.drawn(100000, 0), -2);
        DUE.is("29 what below", x.drawn(0, -1), -2);
        DUE.is("29 what above", x.drawn(0, 2), -2);
    }

    private static void odds() {
        StonesChoose x = world(5);
        for (int most = 0; most <= 5; most++) {
            int good = 0;
            for (int seed = 90; seed < 102; seed++) {
                good += x.drawn(seed, 1) <= most ? 1 : 0;
            }
            int common = 12;
            while (good % common != 0 || 12 % common != 0) {
                common--;
            }
            DUE.is("30 above, most " + most, x.odds(90, 12, most, 0), good / common);
            DUE.is("30 below, most " + most, x.odds(90, 12, most, 1), 12 / common);
        }
        DUE.is("30 never", never().odds(5, 40, 4, 0), 0);
        DUE.is("30 never", never().odds(5, 40, 4, 1), 1);
        DUE.is("30 ever", never().odds(5, 40, 5, 0), 1);
        DUE.is("30 ever", never().odds(5, 40, 5, 1), 1);
        StonesChoose y = world(5);
        int good = 0;
        for (int seed = 99999; seed < 99999 + 7; seed++) {
            good += played(world(5), seed)[1] <= 2 ? 1 : 0;
        }
        DUE.is("30 past 99999", y.odds(99999, 7, 2, 0), good % 7 == 0 ? good / 7 : good);
        DUE.is("30 past 99999", y.odds(99999, 7, 2, 1), good % 7 == 0 ? 1 : 7);
        DUE.is("30 in thought", y.count(2), 5);
    }

    /** Five stones that no building has room for. */
    private static StonesChoose never() {
        StonesChoose x = world(5);
        for (int b = 0; b < 5; b++) {
            x.build(b, 1, 0);
        }
        return x;
    }

    private static void oddsRefuses() {
        StonesChoose x = world(3);
        DUE.is("30 seed below", x.odds(-1, 1, 0, 0), StonesChoose.NO);
        DUE.is("30 seed above", x.odds(100000, 1, 0, 0), StonesChoose.NO);
        DUE.is("30 seeds below", x.odds(0, 0, 0, 0), StonesChoose.NO);
        DUE.is("30 seeds above", x.odds(0, 41, 0, 0), StonesChoose.NO);
        DUE.is("30 most below", x.odds(0, 1, -1, 0), StonesChoose.NO);
        DUE.is("30 most above", x.odds(0, 1, 6, 0), StonesChoose.NO);
        DUE.is("30 part below", x.odds(0, 1, 0, -1), StonesChoose.NO);
        DUE.is("30 part above", x.odds(0, 1, 0, 2), StonesChoose.NO);
    }

    private static void image() {
        StonesChoose x = new StonesChoose();
        DUE.is("32 there is none", x.back(), -3);
        DUE.is("31 no stones", x.image(), 0);
        DUE.is("32 no stones", x.back(), 0);
        Due.text(x, "likes 99 - far ; wants 0 - weight ; goes 3 ;");
        x.stone(0, 20, 5);
        x.stone(31, 99, 6);
        x.build(1, 1, 3);
        x.build(2, 2, 44);
        x.build(3, 3, 55);
        x.build(4, 0, 77);
        x.year();
        DUE.is("31 two stones", x.image(), 2);
        x.put(0, 1, 7);
        x.put(0, 0, 8);
        x.put(1, 0, 9);
        x.put(1, 1, 10);
        x.build(0, 0, 11);
        x.build(1, 1, 5);
        x.build(2, 2, 0);
        x.build(3, 3, 0);
        x.build(4, 0, 0);
        x.dawn(99);
        x.force(1);
        x.stone(0, 1, 2);
        x.feed(1, 'x', 0, 0, 0, 0);
        x.sheet(0, 0, 5);
        for (int i = 0; i < 2; i++) {
            DUE.is("32 two stones", x.back(), 2);
            kept(x);
            x.put(0, 0, 66);
            x.stone(0, 1, 2);
        }
        DUE.is("31 a second image", x.image(), 3);
        DUE.is("32 the second image", x.back(), 3);
        DUE.is("32 the second image", x.told(0, 0), 66);
    }

    private static void kept(StonesChoose x) {
        DUE.is("32 stones", x.count(0), 2);
        DUE.is("32 year", x.count(1), 1);
        DUE.is("32 texts are none of it", x.count(3), 2);
        DUE.is("32 the law", x.count(4), 0);
        DUE.is("32 the tape is none of it", x.count(5), 1);
        DUE.is("32 sheets are none of it", x.cell(0, 4, 1), 1);
        DUE.is("32 at", x.told(0, 0), 20);
        DUE.is("32 weight", x.told(0, 1), 5);
        DUE.is("32 in", x.told(0, 2), 1);
        DUE.is("32 at", x.told(1, 0), 98);
        DUE.is("32 weight", x.told(1, 1), 6);
        DUE.is("32 in", x.told(1, 2), -1);
        DUE.is("32 place", x.site(0, 0), 0);
        DUE.is("32 room", x.site(1, 1), 3);
        DUE.is("32 built", x.site(1, 3), 1);
        DUE.is("32 bits", x.site(1, 4), 1);
        DUE.is("32 vain", x.site(2, 2), 44);
        DUE.is("32 built", x.site(3, 3), 55);
        DUE.is("32 place", x.site(4, 0), 77);
        DUE.is("32 no third stone", x.told(2, 0), -5);
    }

    private static void backToFewer() {
        StonesChoose x = new StonesChoose();
        x.stone(12, 20, 5);
        x.image();
        x.stone(23, 20, 6);
        x.stone(34, 20, 7);
        x.year();
        DUE.is("32 one", x.back(), 1);
        DUE.is("32 none in it", x.site(1, 4), 0);
        DUE.is("32 in none", x.count(2), 1);
        DUE.is("32 a new one", x.stone(45, 21, 8), 1);
        DUE.is("32 a new one's kind", x.told(1, 3), 4);
        DUE.is("32 a new one's more", x.told(1, 4), 5);
        DUE.is("32 a new one is in none", x.told(1, 2), -1);
        DUE.is("32 the old one's kind", x.told(0, 3), 1);
    }
}

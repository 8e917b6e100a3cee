import java.io.File;
import java.io.IOException;
import java.nio.file.Path;
import java.util.Random;
import java.util.Scanner;

/**
 * The machine stays on its feet: Java 17's compiler has read a row by -1 ahead of the test for -1 that stood in the
 * program, and the machine fell. Drawn runs, each in a machine of its own that waits for its compiler (-Xbatch), so
 * that it falls by seed and not by chance; some of them once more without a compiler (-Xint), for the same answers.
 */
public final class HotTest {
    private static final int SEEDS = 24;
    private static final int CHECKED = 3;
    private static final int OBJECTS = 400;

    public static void main(String[] args) throws IOException, InterruptedException {
        if (args.length > 0) {
            int seed = Integer.parseInt(args[0]);
            System.out.println(seed % 2 == 0 ? choosing(new Random(seed)) : all(new Random(seed)));
            return;
        }
        Due due = new Due("HotTest");
        for (int seed = 0; seed < SEEDS; seed++) {
            long compiled = ran(due, "-Xbatch", seed);
            if (seed < CHECKED) {
                due.is("seed " + seed + " as without a compiler", compiled, ran(due, "-Xint", seed));
            }
        }
        due.end();
    }

    /** What a run in a machine of its own printed. */
    private static long ran(Due due, String how, int seed) throws IOException, InterruptedException {
        String java = Path.of(System.getProperty("java.home"), "bin", "java").toString();
        File told = File.createTempFile("hot", ".log");
        told.deleteOnExit();
        Process machine = new ProcessBuilder(java, how, "-XX:ErrorFile=" + told, "-cp",
            System.getProperty("java.class.path"), "HotTest", Integer.toString(seed)).redirectErrorStream(true).start();
        long answer = 0;
        try (Scanner lines = new Scanner(machine.getInputStream())) {
            while (lines.hasNextLine()) {
                String line = lines.nextLine();
                answer = line.matches("-?\\d+") ? Long.parseLong(line) : answer;
            }
        }
        due.is("seed " + seed + " " + how + " ends well", machine.waitFor(), 0);
        return answer;
    }

    /** Rooms, stones, asking in turn, all ways. */
    private static long choosing(Random lots) {
        long sum = 0;
        for (int o = 0; o < OBJECTS; o++) {
            StonesChoose x = begun(lots);
            for (int i = 0; i < 66; i++) {
                int c = lots.nextInt(660);
                if (c < 290) {
                    sum += x.stone(lots.nextInt(61), lots.nextInt(100), lots.nextInt(100));
                } else if (c < 540) {
                    int b = lots.nextInt(30) == 0 ? -1 : lots.nextInt(5);
                    int what = lots.nextInt(2) == 0 ? 1 : lots.nextInt(4);
                    sum += x.build(b, what, lots.nextInt(what == 1 ? 6 : 100));
                } else if (c < 648) {
                    sum += x.court(lots.nextInt(3));
                } else {
                    sum += x.all(lots.nextInt(5));
                }
            }
        }
        return sum;
    }

    /** All calls that work long. */
    private static long all(Random lots) {
        long sum = 0;
        for (int o = 0; o < OBJECTS / 4; o++) {
            StonesChoose x = begun(lots);
            for (int i = 0; i < 60; i++) {
                sum = 31 * sum + one(x, lots);
            }
        }
        return sum;
    }

    private static long one(StonesChoose x, Random lots) {
        int p = lots.nextInt(5);
        switch (lots.nextInt(18)) {
            case 0: return x.all(lots.nextInt(5));
            case 1: return x.court(lots.nextInt(3));
            case 2: return x.annex(lots.nextInt(2));
            case 3: return x.peace(lots.nextInt(3));
            case 4: return x.year();
            case 5: return x.run(lots.nextInt(41), lots.nextInt(2));
            case 6: return x.when(p, -1 + lots.nextInt(6));
            case 7: return lots.nextInt(4) == 0 ? x.cart(p, lots.nextInt(2)) : x.share(0);
            case 8: return x.odds(lots.nextInt(9999), 1 + lots.nextInt(40), lots.nextInt(6), 0);
            case 9: return x.film(lots.nextInt(4), p, lots.nextInt(21));
            case 10: return x.states(lots.nextInt(4), p, lots.nextInt(2), lots.nextInt(2));
            case 11: return x.kinds(lots.nextInt(4), p, lots.nextInt(2));
            case 12: return x.laws(lots.nextInt(4), p);
            case 13: return x.whose(lots.nextInt(4));
            case 14: return x.drawn(lots.nextInt(9999), lots.nextInt(2));
            case 15: return x.put(p, lots.nextInt(2), lots.nextInt(100));
            case 16: return x.stonesBy(lots.nextInt(4), 0, lots.nextInt(9) - 1, lots.nextInt(6));
            default: return x.told(p, lots.nextInt(7)) + x.asks(lots.nextInt(3), p, lots.nextInt(6) - 1);
        }
    }

    private static StonesChoose begun(Random lots) {
        StonesChoose x = new StonesChoose();
        for (int i = lots.nextInt(6); i > 0; i--) {
            x.build(lots.nextInt(5), 1, lots.nextInt(6));
        }
        for (int i = lots.nextInt(6); i > 0; i--) {
            int what = lots.nextInt(3);
            x.build(lots.nextInt(5), what == 1 ? 3 : what, lots.nextInt(100));
        }
        for (int i = lots.nextInt(6); i > 0; i--) {
            x.stone(lots.nextInt(60), lots.nextInt(100), lots.nextInt(100));
        }
        return x;
    }
}

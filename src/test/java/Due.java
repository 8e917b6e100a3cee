/** Counts checks and prints each answer that is not the one that is due. */
final class Due {
    private final String test;
    private int checks;
    private int wrong;

    Due(String test) {
        this.test = test;
    }

    void is(String call, long got, long want) {
        checks++;
        if (got != want) {
            wrong++;
            System.out.println(test + ": " + call + " answered " + got + ", due is " + want);
        }
    }

    /** Prints how it went; ends with exit code 1 if an answer was wrong. */
    void end() {
        System.out.println(test + ": " + checks + " checks, " + wrong + " wrong");
        if (wrong != 0) {
            System.exit(1);
        }
    }

    /** Feeds a text, five bytes a call, so that an object's 512 calls are not spent by it, and reads it. */
    static int text(StonesChoose x, String text) {
        for (int i = 0; i < text.length(); i += 5) {
            int[] v = new int[5];
            int n = Math.min(5, text.length() - i);
            for (int k = 0; k < n; k++) {
                v[k] = text.charAt(i + k);
            }
            x.feed(n, v[0], v[1], v[2], v[3], v[4]);
        }
        return x.text();
    }

    /** Makes a sheet of a sort that holds these numbers. */
    static void row(StonesChoose x, int s, int sort, int... numbers) {
        x.sheet(s, sort, numbers.length);
        for (int i = 0; i < numbers.length; i++) {
            x.cell(s, i, numbers[i]);
        }
    }
}

/** Compares answers with those that are due, and tells the ones that differ. */
final class Check {
    static final long BEYOND = -1000001L;
    static final long FULL = -1000002L;
    static final long KIND = -1000003L;
    static final long NONE = -1000004L;
    static final long STATE = -1000005L;
    static final long MISSING = -1000006L;
    static final long SIZE = -1000007L;

    private int wrong = 0;
    private int asked = 0;
    private String sentence = "";

    /** The words of the document that the next answers are due by; they are told with each that differs. */
    void sentence(String words) {
        sentence = "[" + words + "] ";
    }

    void due(String call, long got, long want) {
        asked++;
        if (got != want) {
            wrong++;
            if (wrong <= 40) {
                System.out.println(sentence + call + " answered " + got + ", due is " + want);
            }
        }
    }

    void holds(String what, boolean so) {
        due(what + " (1: it holds)", so ? 1 : 0, 1);
    }

    /** Ends the program, with exit code 1 if an answer was not as due. */
    void end() {
        System.out.println(wrong == 0 ? asked + " answers are as due" : wrong + " of " + asked + " answers are not as due");
        if (wrong != 0 || asked == 0) {
            System.exit(1);
        }
    }

    /** Puts a text behind the tape, by fours, since an object has 512 calls only. */
    static void feed(TubSteps x, String text) {
        for (int at = 0; at < text.length(); at += 4) {
            int n = Math.min(4, text.length() - at);
            int bytes = 0;
            for (int i = 0; i < n; i++) {
                bytes = bytes << 8 | text.charAt(at + i);
            }
            x.feed(bytes, n);
        }
    }

    /** Reads a text that is put on an empty tape. */
    static int read(TubSteps x, String text) {
        x.wipe();
        feed(x, text);
        return x.text();
    }

    /** A new object for which a text has been read. */
    static TubSteps spa(String text) {
        TubSteps x = new TubSteps();
        int answer = read(x, text);
        if (answer < 0) {
            throw new IllegalStateException("the test's own text has a fault: " + text + ": " + answer);
        }
        return x;
    }

    /** A sheet gets numbers of so many bits. */
    static void fill(TubSteps x, int s, int bits, int... numbers) {
        x.sheet(s, bits, numbers.length);
        for (int i = 0; i < numbers.length; i++) {
            x.write(s, i, numbers[i]);
        }
    }
}

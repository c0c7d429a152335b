/** Promises 28 to 30, sentence by sentence: the edges of draws, odds and seeds. */
final class EdgesPlugsTest {
    private static final Check C = new Check();
    private static final Edges BUSY = new Edges(C, Edges::busy);
    private static final Edges NEW = new Edges(C, TubSteps::new);
    private static final Edges FULL = new Edges(C, Edges::full);

    public static void main(String[] args) {
        promise28Times();
        promise28State();
        promise28RestBy10();
        promise28Draws();
        promise29Odds();
        promise29LowestTerms();
        promise30Seed();
        C.end();
    }

    private static void promise28Times() {
        C.sentence("n times (1 to 20): .. WARMTH of all TUBS together then. BEYOND.");
        BUSY.argument(0, 1, 20, "plugs", 3);
        for (int n = 1; n <= 20; n++) {
            TubSteps x = Edges.busy();
            TubSteps step = Edges.busy();
            int last = 0;
            for (int i = 0; i < n; i++) {
                last = step.plugs(1);
            }
            C.due("plugs(" + n + ") as so many by one", x.plugs(n), last);
            C.due("now(1)", x.now(1), last);
            C.due("now(0)", x.now(0), 2 + n);
            Seen.alike(C, "plugs(" + n + ")", Seen.all(x), Seen.all(step));
        }
    }

    private static void promise28State() {
        C.sentence("STATE: HOUR would be above 99999.");
        Edges late = new Edges(C, EdgesPlugsTest::late);
        late.refused(Check.STATE, "plugs", 20);
        late.refused(Check.BEYOND, "plugs", 21);
        late.refused(Check.BEYOND, "plugs", 0);
        TubSteps x = late();
        C.due("plugs(19)", x.plugs(19), x.now(1));
        C.due("now(0)", x.now(0), 99999);
        int z = x.count(6);
        C.due("plugs(1)", x.plugs(1), Check.STATE);
        C.due("nothing was drawn", x.count(6), z);
    }

    /** An object at HOUR 99980: it takes more than 512 calls, so it is no run that the document speaks of. */
    private static TubSteps late() {
        TubSteps x = new TubSteps();
        for (int i = 0; i < 2499; i++) {
            x.go(40);
        }
        x.go(20);
        return x;
    }

    private static void promise28RestBy10() {
        C.sentence("a draw: the PLUG of the TUB of its rest by 10 is pulled; then an HOUR");
        boolean[] drawn = new boolean[10];
        for (int seed = 0; seed < 60; seed++) {
            int rest = (int) (((seed * 1103515245L + 12345L) & 0xffffffffL) / 256 % 10);
            drawn[rest] = true;
            TubSteps x = new TubSteps();
            for (int tub = 0; tub < 10; tub++) {
                x.warm(tub, 50);
                x.scent(tub, 1, 40);
            }
            x.seed(seed);
            C.due("plugs(1) from " + seed, x.plugs(1), 90 + 9 * 46 - (rest == 9 ? 0 : 46));
            for (int tub = 1; tub < 10; tub++) {
                C.due("tub(" + tub + ", 4) from " + seed, x.tub(tub, 4), tub - 1 == rest ? 0 : 46);
                C.due("tub(" + tub + ", 1) from " + seed, x.tub(tub, 1), tub - 1 == rest ? 0 : 30);
            }
        }
        for (int tub = 0; tub < 10; tub++) {
            C.holds("the plug of " + tub + " was among them", drawn[tub]);
        }
    }

    private static void promise28Draws() {
        C.sentence("z is told (1 at first); each makes it z * 1103515245 + 12345 (an int), and gives z >>> 8");
        int[][] seedAndNext = {{1, 1103527590}, {0, 12345}, {-1, -1103502900}, {2, -2087924461}};
        for (int[] each : seedAndNext) {
            TubSteps x = new TubSteps();
            x.seed(each[0]);
            x.plugs(1);
            C.due("z behind " + each[0], x.count(6), each[1]);
        }
        for (int seed : new int[] {2, 3, -1, Integer.MAX_VALUE, Integer.MIN_VALUE}) {
            TubSteps x = new TubSteps();
            for (int tub = 0; tub < 10; tub++) {
                x.warm(tub, 50);
            }
            x.seed(seed);
            long z = (seed * 1103515245L + 12345L) & 0xffffffffL;
            x.plugs(1);
            int tub = (int) (z >> 8) % 10;
            C.due("z behind " + seed + " wraps around", x.count(6), (int) z);
            C.due("no draw is below 0: " + seed, tub == 9 ? 0 : x.tub(tub + 1, 4), 0);
        }
    }

    private static void promise29Odds() {
        C.sentence("n (0 to 18) such draws .. above (what 0), below the line (1). BEYOND.");
        BUSY.argument(0, 0, 18, "odds", 3, 0);
        BUSY.argument(0, 0, 18, "odds", 3, 1);
        BUSY.argument(1, 0, 1, "odds", 3, 0);
        BUSY.refused(Check.BEYOND, "odds", 19, 2);
        BUSY.onlyAsked(1, "odds", 0, 0);
        BUSY.onlyAsked(1, "odds", 0, 1);
        BUSY.onlyAsked(7, "odds", 1, 0);
        BUSY.onlyAsked(10, "odds", 1, 1);
        BUSY.onlyAsked(1628413597910449L, "odds", 18, 0);
        BUSY.onlyAsked(1000000000000000000L, "odds", 18, 1);
    }

    private static void promise29LowestTerms() {
        C.sentence("TUBS that nobody is IN: a fraction in lowest terms");
        NEW.onlyAsked(1, "odds", 18, 0);
        NEW.onlyAsked(1, "odds", 18, 1);
        FULL.onlyAsked(1, "odds", 18, 0);
        FULL.onlyAsked(3814697265625L, "odds", 18, 1);
        int[][] lowest = {{1, 1}, {9, 10}, {4, 5}, {7, 10}, {3, 5}, {1, 2}, {2, 5}, {3, 10}, {1, 5}};
        TubSteps x = new TubSteps();
        for (int taken = 0; taken <= 8; taken++) {
            for (int n = 0; n <= 18; n += 9) {
                long above = 1;
                long below = 1;
                for (int i = 0; i < n; i++) {
                    above *= lowest[taken][0];
                    below *= lowest[taken][1];
                }
                C.due("odds(" + n + ", 0) with " + taken + " taken", x.odds(n, 0), above);
                C.due("odds(" + n + ", 1) with " + taken + " taken", x.odds(n, 1), below);
            }
            x.bather(0, taken);
        }
        TubSteps together = new TubSteps();
        for (int i = 0; i < 8; i++) {
            together.bather(0, 9);
        }
        C.due("eight in one TUB", together.odds(1, 0), 9);
    }

    private static void promise30Seed() {
        C.sentence("z becomes v: what it was.");
        BUSY.taken(9, "seed", 0);
        NEW.taken(1, "seed", -1);
        TubSteps x = new TubSteps();
        int was = 1;
        for (int v : new int[] {0, -1, Integer.MAX_VALUE, Integer.MIN_VALUE, -1000001, -1000007, 1}) {
            C.due("seed(" + v + ")", x.seed(v), was);
            C.due("count(6)", x.count(6), v);
            was = v;
        }
        C.due("each int is taken", x.status(-1), 0);
    }
}

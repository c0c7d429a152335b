/** Promises 28 to 30: plugs by draws. */
final class PlugsTest {
    private static final Check C = new Check();

    public static void main(String[] args) {
        promise28Plugs();
        promise28Draws();
        promise29Odds();
        promise30Seed();
        C.end();
    }

    private static TubSteps warmSpa() {
        TubSteps x = new TubSteps();
        for (int tub = 0; tub < 10; tub++) {
            x.warm(tub, 50 + tub);
            x.scent(tub, 3, 100);
        }
        return x;
    }

    private static void promise28Plugs() {
        TubSteps x = warmSpa();
        // z becomes 1103515245 + 12345 = 1103527590; its upper 24 bits are 4310654: tub 4
        int all = 90;
        for (int tub = 0; tub < 9; tub++) {
            all += tub == 4 ? 0 : 46 + tub;
        }
        C.due("plugs(1)", x.plugs(1), all);
        C.due("the plug was pulled ahead of the hour", x.tub(5, 4), 0);
        C.due("its scents are gone", x.tub(5, 6), 0);
        C.due("others are not", x.tub(6, 3), 75);
        C.due("count(6)", x.count(6), 1103527590);
        C.due("now(0)", x.now(0), 1);
        C.due("plugs(20)", x.plugs(20), x.now(1));
        C.due("now(0)", x.now(0), 21);
        C.due("plugs(0)", x.plugs(0), Check.BEYOND);
        C.due("plugs(21)", x.plugs(21), Check.BEYOND);
        C.due("plugs(-1)", x.plugs(-1), Check.BEYOND);
        C.due("now(0) as it was", x.now(0), 21);
    }

    /** Twenty at once are as one by one, and as the calls that the words name. */
    private static void promise28Draws() {
        for (int seed : new int[] {1, 0, -1, 7, -123456789, Integer.MIN_VALUE, Integer.MAX_VALUE}) {
            TubSteps at = warmSpa();
            TubSteps by = warmSpa();
            at.bather(6, 2);
            by.bather(6, 2);
            at.seed(seed);
            long z = seed;
            for (int i = 0; i < 20; i++) {
                z = (z * 1103515245L + 12345L) & 0xffffffffL;
                by.plug((int) (z / 256 % 10));
                by.go(1);
            }
            C.due("plugs(20) from " + seed, at.plugs(20), by.now(1));
            C.due("z from " + seed, at.count(6), (int) z);
            C.due("scents from " + seed, at.now(2), by.now(2));
        }
    }

    private static void promise29Odds() {
        TubSteps x = new TubSteps();
        C.due("odds(18, 0): nobody is there", x.odds(18, 0), 1);
        C.due("odds(18, 1)", x.odds(18, 1), 1);
        x.bather(0, 3);
        C.due("odds(18, 0)", x.odds(18, 0), 150094635296999121L);
        C.due("odds(18, 1)", x.odds(18, 1), 1000000000000000000L);
        x.bather(0, 3);
        C.due("odds(1, 0): two in one tub", x.odds(1, 0), 9);
        x.bather(0, 4);
        C.due("odds(2, 0): 8 of 10", x.odds(2, 0), 16);
        C.due("odds(2, 1)", x.odds(2, 1), 25);
        x.bather(0, 5);
        x.bather(0, 6);
        C.due("odds(3, 0): 6 of 10", x.odds(3, 0), 27);
        C.due("odds(3, 1)", x.odds(3, 1), 125);
        x.bather(0, 7);
        C.due("odds(3, 0): 5 of 10", x.odds(3, 0), 1);
        C.due("odds(3, 1)", x.odds(3, 1), 8);
        x.bather(0, 8);
        x.bather(0, 9);
        x.change(0, 1, 0);
        C.due("odds(18, 0): 2 of 10", x.odds(18, 0), 1);
        C.due("odds(18, 1)", x.odds(18, 1), 3814697265625L);
        C.due("odds(0, 0)", x.odds(0, 0), 1);
        C.due("odds(0, 1)", x.odds(0, 1), 1);
        C.due("odds(19, 0)", x.odds(19, 0), Check.BEYOND);
        C.due("odds(-1, 0)", x.odds(-1, 0), Check.BEYOND);
        C.due("odds(0, 2)", x.odds(0, 2), Check.BEYOND);
        C.due("odds(0, -1)", x.odds(0, -1), Check.BEYOND);
        C.due("status(0)", x.status(0), 4);
    }

    private static void promise30Seed() {
        TubSteps x = new TubSteps();
        C.due("seed(-1000001)", x.seed(-1000001), 1);
        C.due("seed(Integer.MIN_VALUE): an answer, no finding", x.seed(Integer.MIN_VALUE), -1000001);
        C.due("seed(5)", x.seed(5), Integer.MIN_VALUE);
        C.due("count(6)", x.count(6), 5);
        C.due("status(-1)", x.status(-1), 0);
    }
}

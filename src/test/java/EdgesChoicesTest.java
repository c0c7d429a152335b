/** Promises 19 to 27, sentence by sentence: the edges of choices, of what hides and of what came out below. */
final class EdgesChoicesTest {
    private static final Check C = new Check();
    private static final Edges NEW = new Edges(C, TubSteps::new);
    private static final Edges BUSY = new Edges(C, Edges::busy);
    private static final Edges FULL = new Edges(C, Edges::full);
    private static final Edges ALONE = new Edges(C, () -> Check.spa("clerk in 9"));

    public static void main(String[] args) {
        promise19SwapFor();
        promise19None();
        promise19Least();
        promise20Seat();
        promise20Soonest();
        promise20None();
        promise20Least();
        promise21KindFor();
        promise21Least();
        promise22FreshFor();
        promise22LeastAndNone();
        promise23Hides();
        promise23OneAndTheSame();
        promise23ByTens();
        promise24Leave();
        promise24NoneAndAll();
        promise24Fewest();
        promise25PlugFor();
        promise25Least();
        promise26Sheets();
        promise26NowAndFurtherOn();
        promise26Any();
        promise27Kinds();
        promise27NowAndFurtherOn();
        C.end();
    }

    private static void promise19SwapFor() {
        C.sentence("with whom to change TUBS now lets one KNOW most SCENTS behind n (0 to 40) HOURS. BEYOND.");
        BUSY.argument(0, 0, 2, "swapFor", 0, 5);
        FULL.argument(0, 0, 7, "swapFor", 0, 5);
        BUSY.argument(1, 0, 40, "swapFor", 0, 5);
        BUSY.onlyAsked(1, "swapFor", 0, 0);
        BUSY.onlyAsked(0, "swapFor", 2, 0);
    }

    private static void promise19None() {
        C.sentence("NONE: there is no other one.");
        ALONE.refused(Check.NONE, "swapFor", 0, 0);
        ALONE.refused(Check.NONE, "swapFor", 0, 40);
        ALONE.refused(Check.BEYOND, "swapFor", 0, 41);
        ALONE.refused(Check.BEYOND, "swapFor", 1, 0);
        TubSteps two = Check.spa("clerk; clerk");
        C.due("swapFor(0, 0): the other one", two.swapFor(0, 0), 1);
        C.due("swapFor(1, 0): the other one", two.swapFor(1, 0), 0);
    }

    private static void promise19Least() {
        C.sentence("swapFor: of several that would do the least number counts");
        TubSteps x = Check.spa("clerk in 9; sad in 4; sad in 3; sad in 3; tub 2 0 of 1 400");
        C.due("1 would smell nothing, 2 and 3 would do", x.swapFor(0, 1), 2);
        C.due("behind 2 HOURS 1 would do, too", x.swapFor(0, 2), 1);
        x.change(1, 1, 3);
        C.due("1 to 3 would do", x.swapFor(0, 1), 1);
        x.change(0, 3, 2);
        C.due("all are alike if it KNOWS", x.swapFor(0, 1), 1);
    }

    private static void promise20Seat() {
        C.sentence("The TUB IN which a BATHER KNOWS a SCENT soonest (60 HOURS at most). BEYOND.");
        BUSY.argument(0, 0, 2, "seat", 0, 3);
        FULL.argument(0, 0, 7, "seat", 0, 3);
        BUSY.argument(1, 0, 3, "seat", 0, 3);
        BUSY.onlyAsked(4, "seat", 2, 3);
        BUSY.onlyAsked(0, "seat", 0, 2);
        TubSteps low = Check.spa("clerk; tub 8 0 of 1 400");
        C.due("the lowest TUB", low.seat(0, 1), 9);
        TubSteps gone = Check.spa("clerk; tub 9 0 of 1 9999");
        C.due("what is in 9 is gone behind an HOUR", gone.seat(0, 1), Check.NONE);
    }

    private static void promise20Soonest() {
        C.sentence("KNOWS a SCENT soonest");
        TubSteps x = Check.spa("bather; bather in 1 with 1; bather in 2 with 1");
        // 64 and 48 are as much as 100 and an eighth of its own 64
        C.due("2 behind two HOURS", x.seat(0, 1), 2);
        x.scent(7, 1, 400);
        C.due("but 8 behind one", x.seat(0, 1), 8);
        x.scent(7, 1, 0);
        x.scent(6, 1, 400);
        C.due("7 behind one", x.seat(0, 1), 7);
        x.scent(6, 1, 0);
        x.scent(9, 1, 9999);
        C.due("what is in 9 does not count", x.seat(0, 1), 2);
    }

    private static void promise20None() {
        C.sentence("seat: NONE.");
        BUSY.refused(Check.NONE, "seat", 0, 1);
        BUSY.refused(Check.NONE, "seat", 2, 0);
        BUSY.refused(Check.BEYOND, "seat", 3, 0);
        ALONE.refused(Check.NONE, "seat", 0, 3);
    }

    private static void promise20Least() {
        C.sentence("seat: of several that would do the least number counts");
        TubSteps x = Check.spa("clerk in 9; tub 1 0 of 1 400; tub 8 0 of 1 400");
        C.due("2 and 9 behind one HOUR", x.seat(0, 1), 2);
        TubSteps first = Check.spa("clerk in 9; duchess with 1; duchess in 1 with 1");
        C.due("0 and 1 behind one HOUR", first.seat(0, 1), 0);
        TubSteps sooner = Check.spa("clerk; bather in 1 with 1; bather in 2 with 1; tub 6 0 of 1 400");
        C.due("1, 2 and 7 behind one HOUR", sooner.seat(0, 1), 1);
        sooner.change(1, 1, 9);
        sooner.change(2, 1, 9);
        C.due("7 and 9 behind one HOUR", sooner.seat(0, 1), 7);
    }

    private static void promise21KindFor() {
        C.sentence("The KIND as which it KNOWS most SCENTS behind n (0 to 40) HOURS. BEYOND.");
        BUSY.argument(0, 0, 2, "kindFor", 0, 5);
        FULL.argument(0, 0, 7, "kindFor", 0, 5);
        BUSY.argument(1, 0, 40, "kindFor", 0, 5);
        BUSY.onlyAsked(0, "kindFor", 0, 0);
        NEW.refused(Check.BEYOND, "kindFor", 0, 0);
    }

    private static void promise21Least() {
        C.sentence("kindFor: of several that would do the least number counts");
        // what comes down must be as much as NOSE and an eighth of its own
        int[][] muchAndKind = {{144, 0}, {143, 2}, {72, 2}, {71, 3}, {42, 3}, {41, 4}, {15, 4}, {14, 0}};
        for (int[] each : muchAndKind) {
            TubSteps x = Check.spa("bather in 5; tub 4 0 of 1 " + each[0]);
            C.due(each[0] + " of 1 above", x.kindFor(0, 1), each[1]);
        }
    }

    private static void promise22FreshFor() {
        C.sentence("with which WARMTH of no TUB is below v (0 to 99) behind n (0 to 40) HOURS. BEYOND.");
        BUSY.argument(0, 0, 99, "freshFor", 5, 20);
        BUSY.argument(1, 0, 40, "freshFor", 5, 20);
        BUSY.refused(Check.BEYOND, "freshFor", 100, 41);
    }

    private static void promise22LeastAndNone() {
        C.sentence("The least FRESH .. NONE.");
        BUSY.onlyAsked(0, "freshFor", 0, 0);
        BUSY.onlyAsked(0, "freshFor", 0, 40);
        NEW.onlyAsked(37, "freshFor", 1, 10);
        NEW.onlyAsked(99, "freshFor", 63, 10);
        NEW.refused(Check.NONE, "freshFor", 64, 10);
        NEW.refused(Check.NONE, "freshFor", 99, 40);
        NEW.refused(Check.NONE, "freshFor", 1, 9);
        NEW.refused(Check.NONE, "freshFor", 1, 0);
        TubSteps x = new TubSteps();
        for (int tub = 0; tub < 10; tub++) {
            x.warm(tub, 50);
        }
        C.due("behind 0 HOURS each FRESH would do", x.freshFor(50, 0), 0);
        C.due("or none", x.freshFor(51, 0), Check.NONE);
    }

    private static void promise23Hides() {
        C.sentence("so that within n (0 to 20) HOURS nobody comes to KNOW another SCENT. BEYOND");
        BUSY.argument(0, 0, 9, "hides", 0, 1, 2, 5);
        BUSY.argument(1, 0, 2, "hides", 0, 0, 3, 5);
        BUSY.argument(2, 1, 3, "hides", 0, 0, 1, 5);
        BUSY.argument(3, 0, 20, "hides", 0, 1, 2, 5);
        BUSY.onlyAsked(0, "hides", 3, 1, 3, 0);
        BUSY.onlyAsked(0, "hides", 3, 1, 3, 1);
        NEW.onlyAsked(0, "hides", 0, 1, 2, 20);
        TubSteps late = Check.spa("clerk in 9; tub 5 0 of 1 300");
        // 94 of 300 come down behind 4 HOURS
        C.due("within 3 HOURS nobody comes to KNOW it", late.hides(5, 2, 1, 3), 0);
        C.due("within 4 there must be more", late.hides(5, 2, 1, 4), 1040);
    }

    private static void promise23OneAndTheSame() {
        C.sentence("BEYOND: also one and the same SCENT.");
        for (int scent = -1; scent < 5; scent++) {
            BUSY.refused(Check.BEYOND, "hides", 0, scent, scent, 5);
        }
        BUSY.refused(Check.BEYOND, "hides", 10, 1, 1, 21);
    }

    private static void promise23ByTens() {
        C.sentence("By how much (0, 10, 20, .., as long as it is 9999 at most then) at least .. NONE.");
        // 990 come down, which 50 and an eighth of 32 and 7496 hide: so many come of 9995 and more
        TubSteps x = Check.spa("clerk in 1; tub 0 0 of 1 1320");
        int[][] thereAndMore = {
            {0, -1}, {4, -1}, {5, 9990}, {9, 9990}, {10, -1}, {14, -1}, {15, 9980}, {19, 9980}, {20, -1}, {9984, -1},
            {9985, 10}, {9989, 10}, {9990, -1}, {9994, -1}, {9995, 0}, {9999, 0}};
        for (int[] each : thereAndMore) {
            x.scent(0, 2, each[0]);
            C.due("with " + each[0] + " of it there", x.hides(0, 2, 1, 1), each[1] < 0 ? Check.NONE : each[1]);
        }
        x.scent(0, 1, 1400);
        x.scent(0, 2, 9999);
        C.due("9999 are not enough", x.hides(0, 2, 1, 1), Check.NONE);
        x.change(0, 3, 2);
        C.due("who KNOWS does not come to KNOW", x.hides(0, 2, 1, 1), 0);
        new Edges(C, () -> Check.spa("clerk in 1; tub 0 0 of 1 1400; tub 0 0 of 2 9999")).refused(Check.NONE, "hides", 0, 2, 1, 20);
        new Edges(C, () -> Check.spa("clerk in 1; tub 0 0 of 1 200")).onlyAsked(1040, "hides", 0, 2, 1, 20);
    }

    private static void promise24Leave() {
        C.sentence("so that within n (0 to 20) HOURS nobody comes to KNOW a SCENT .. BEYOND.");
        BUSY.argument(0, 0, 3, "leave", 0, 5);
        BUSY.argument(1, 0, 20, "leave", 0, 5);
        BUSY.refused(Check.BEYOND, "leave", 4, 21);
        // the clerk comes to KNOW 3 behind two HOURS
        BUSY.onlyAsked(0, "leave", 3, 0);
        BUSY.onlyAsked(0, "leave", 3, 1);
        BUSY.onlyAsked(4, "leave", 3, 2);
        BUSY.onlyAsked(2, "leave", 2, 20);
    }

    private static void promise24NoneAndAll() {
        C.sentence("The set of fewest BATHERS who must leave now");
        NEW.onlyAsked(0, "leave", 0, 20);
        TubSteps x = Check.spa("tub 0 0 of 1 9999");
        for (int bather = 0; bather < 8; bather++) {
            x.bather(2, 1);
        }
        C.due("all eight", x.leave(1, 1), 255);
        C.due("none within 0 HOURS", x.leave(1, 0), 0);
        x.change(7, 3, 2);
        C.due("all but the last, who KNOWS", x.leave(1, 1), 127);
        C.due("nobody has left", x.tub(1, 5), 255);
        C.sentence("(they ADD, COOL and SMELL nothing then)");
        TubSteps adds = Check.spa("duchess with 1; clerk in 1");
        C.due("she ADDS nothing then", adds.leave(1, 2), 1);
        TubSteps smells = Check.spa("clerk in 1; consul in 0 with 1; tub 0 0 of 3 150");
        C.due("the clerk SMELLS nothing then", smells.leave(3, 1), 1);
        // NOSE and MASK are 463: without the spy 3 consuls would ADD 459, if it went on to COOL, but ADD 468
        TubSteps cools = Check.spa("spy in 1 with 1;consul in 1 with 1;consul in 1 with 1;consul in 1 with 1;sad in 1;tub 0 64 of 3 587");
        C.due("the spy COOLS nothing then", cools.leave(1, 1), 2);
    }

    private static void promise24Fewest() {
        C.sentence("of several the least");
        TubSteps either = Check.spa("sad in 9; clerk; duchess with 1");
        C.due("2 or 4", either.leave(1, 1), 2);
        TubSteps fewer = Check.spa("duchess with 1; duchess with 1; sad in 9; clerk");
        C.due("8 is of fewer than 3", fewer.leave(1, 1), 8);
        TubSteps pairs = Check.spa("clerk; duchess with 1; clerk; duchess with 1");
        C.due("5 or 10", pairs.leave(1, 1), 5);
    }

    private static void promise25PlugFor() {
        C.sentence("if its PLUG is pulled now, fewest BATHERS KNOW a SCENT behind n (0 to 40) HOURS. BEYOND.");
        BUSY.argument(0, 0, 3, "plugFor", 0, 5);
        BUSY.argument(1, 0, 40, "plugFor", 0, 5);
        BUSY.refused(Check.BEYOND, "plugFor", 4, 41);
        BUSY.onlyAsked(0, "plugFor", 3, 0);
        BUSY.onlyAsked(0, "plugFor", 3, 1);
        BUSY.onlyAsked(3, "plugFor", 3, 2);
        BUSY.onlyAsked(3, "plugFor", 3, 40);
        NEW.onlyAsked(0, "plugFor", 0, 40);
    }

    private static void promise25Least() {
        C.sentence("plugFor: of several that would do the least number counts");
        TubSteps low = Check.spa("clerk in 9; tub 8 0 of 1 400");
        C.due("8 alone would do", low.plugFor(1, 1), 8);
        TubSteps two = Check.spa("clerk in 9; clerk in 5; tub 8 0 of 1 400; tub 4 0 of 1 400");
        C.due("4 or 8", two.plugFor(1, 1), 4);
        TubSteps all = Check.spa("tub 3 0 of 1 2000");
        for (int bather = 0; bather < 8; bather++) {
            all.bather(2, 4);
        }
        C.due("all eight or none", all.plugFor(1, 1), 3);
        for (int bather = 0; bather < 8; bather++) {
            all.change(bather, 3, bather == 5 ? 0 : 2);
        }
        C.due("seven of eight KNOW already", all.plugFor(1, 1), 3);
        all.change(5, 3, 2);
        C.due("all eight KNOW already", all.plugFor(1, 1), 0);
    }

    private static void promise26Sheets() {
        C.sentence("BEYOND: no such sheet. MISSING. BEYOND: no such BATHER.");
        BUSY.argument(0, 0, 3, "fits", 0, 0);
        BUSY.argument(1, 0, 2, "fits", 0, 0);
        FULL.argument(1, 0, 7, "fits", 0, 0);
        BUSY.refused(Check.MISSING, "fits", 3, 0);
        BUSY.refused(Check.MISSING, "fits", 3, 3);
        BUSY.refused(Check.MISSING, "fits", 3, -1);
        BUSY.refused(Check.BEYOND, "fits", 4, 3);
        BUSY.refused(Check.BEYOND, "fits", -1, 0);
        BUSY.onlyAsked(0, "fits", 0, 0);
        BUSY.onlyAsked(15, "fits", 2, 0);
        NEW.refused(Check.MISSING, "fits", 0, 0);
    }

    private static void promise26NowAndFurtherOn() {
        C.sentence("how much of SCENT 0 TUB 9 has now and behind each HOUR further on is as a sheet tells");
        TubSteps x = Check.spa("bather in 9; tub 9 0 of 0 50");
        Check.fill(x, 0, 16, 50);
        C.due("number 0 is now", x.fits(0, 0), 15);
        x.write(0, 0, 51);
        C.due("one more than there is", x.fits(0, 0), 0);
        Check.fill(x, 0, 16, 50, 64);
        C.due("number 1 is behind an HOUR", x.fits(0, 0), 1);
        x.write(0, 1, 0);
        C.due("none of 0", x.fits(0, 0), 14);
        x.sheet(0, 16, 40);
        for (int i = 0; i < 40; i++) {
            x.write(0, i, i == 0 ? 50 : 64);
        }
        C.due("40 numbers", x.fits(0, 0), 1);
        x.write(0, 39, 65);
        C.due("number 39 is looked at", x.fits(0, 0), 0);
        x.sheet(0, 16, 0);
        C.due("no numbers: each could be", x.fits(0, 0), 15);
        TubSteps last = Check.spa("clerk in 9 with 1; tub 0 0 of 0 9999");
        Check.fill(last, 0, 16, 0, 0, 0, 0, 0, 0, 0, 0, 0, 750, 0);
        C.due("what was in 0 comes out behind nine", last.fits(0, 0), 14);
    }

    private static void promise26Any() {
        C.sentence("(-1: any)");
        int[] bits = {8, 16, 32};
        for (int each : bits) {
            TubSteps x = Check.spa("bather in 9; tub 9 0 of 0 50");
            Check.fill(x, 0, each, -1, -1);
            C.due("any, of " + each + " bits", x.fits(0, 0), 15);
            Check.fill(x, 0, each, -1, 64);
            C.due("any, then 64, of " + each + " bits", x.fits(0, 0), 1);
            Check.fill(x, 0, each, 50, -2);
            C.due("-2 is not any, of " + each + " bits", x.fits(0, 0), 0);
            Check.fill(x, 0, each, 50, Integer.MIN_VALUE + 64);
            C.due("the lowest bits alone, of " + each + " bits", x.fits(0, 0), each == 32 ? 0 : 1);
        }
    }

    private static void promise27Kinds() {
        C.sentence("KINDS that it could be of, as a set, likewise. BEYOND: no such sheet. MISSING. BEYOND: no such BATHER.");
        BUSY.argument(0, 0, 3, "kinds", 0, 0);
        BUSY.argument(1, 0, 2, "kinds", 0, 0);
        FULL.argument(1, 0, 7, "kinds", 0, 0);
        BUSY.refused(Check.MISSING, "kinds", 3, 0);
        BUSY.refused(Check.MISSING, "kinds", 3, 3);
        BUSY.refused(Check.MISSING, "kinds", 3, -1);
        BUSY.refused(Check.BEYOND, "kinds", 4, 3);
        BUSY.refused(Check.BEYOND, "kinds", -1, 0);
        BUSY.onlyAsked(0, "kinds", 0, 0);
        BUSY.onlyAsked(127, "kinds", 2, 0);
        NEW.refused(Check.MISSING, "kinds", 0, 0);
    }

    private static void promise27NowAndFurtherOn() {
        C.sentence("kinds: now and behind each HOUR further on (-1: any)");
        TubSteps x = Check.spa("sad in 9; tub 9 0 of 0 50");
        Check.fill(x, 0, 16, 50);
        C.due("now", x.kinds(0, 0), 127);
        Check.fill(x, 0, 16, 49);
        C.due("one less than there is", x.kinds(0, 0), 0);
        Check.fill(x, 0, 16, -1, 64);
        C.due("a BATHER or a SAD", x.kinds(0, 0), 33);
        Check.fill(x, 0, 32, 50, -1, 64);
        C.due("behind two", x.kinds(0, 0), 33);
        x.sheet(0, 16, 40);
        for (int i = 0; i < 40; i++) {
            x.write(0, i, i == 39 ? 8 : -1);
        }
        C.due("number 39: a SPY or a LAMPLIGHTER", x.kinds(0, 0), 24);
        x.scent(8, 0, 100);
        Check.fill(x, 0, 16, 50, 75);
        C.due("a SAD adds nothing to what is there", x.kinds(0, 0), 32);
    }
}

/** Promises 11 to 18, sentence by sentence: the edges of hours and of what will be. */
final class EdgesHoursTest {
    private static final Check C = new Check();
    private static final Edges NEW = new Edges(C, TubSteps::new);
    private static final Edges BUSY = new Edges(C, Edges::busy);
    private static final Edges FULL = new Edges(C, Edges::full);
    private static final Edges LATE = new Edges(C, EdgesHoursTest::late);

    public static void main(String[] args) {
        promise11Hours();
        promise11State();
        promise12What();
        promise12Below40();
        promise12WhoKnowAll();
        promise12WhomNobodyKnows();
        promise13Ahead();
        promise14Knows();
        promise15When();
        promise15None();
        promise16Cold();
        promise16None();
        promise17Left();
        promise18Needed();
        C.end();
    }

    /** An object at HOUR 99960: it takes more than 512 calls, so it is no run that the document speaks of. */
    private static TubSteps late() {
        TubSteps x = Check.spa("sad in 3");
        for (int i = 0; i < 2499; i++) {
            x.go(40);
        }
        return x;
    }

    private static void promise11Hours() {
        C.sentence("n HOURS (1 to 40): WARMTH of TUB 9 then. BEYOND.");
        BUSY.argument(0, 1, 40, "go", 3);
        for (int n = 1; n <= 40; n++) {
            TubSteps x = Edges.busy();
            TubSteps step = Edges.busy();
            int last = 0;
            for (int i = 0; i < n; i++) {
                last = step.go(1);
            }
            C.due("go(" + n + ") as so many by one", x.go(n), last);
            C.due("tub(9, 4)", x.tub(9, 4), last);
            C.due("now(0)", x.now(0), 2 + n);
            Seen.alike(C, "go(" + n + ")", Seen.all(x), Seen.all(step));
        }
    }

    private static void promise11State() {
        C.sentence("STATE: HOUR would be above 99999.");
        LATE.refused(Check.STATE, "go", 40);
        LATE.refused(Check.BEYOND, "go", 41);
        LATE.taken(44, "go", 39);
        TubSteps x = late();
        x.go(39);
        C.due("now(0)", x.now(0), 99999);
        C.due("go(1)", x.go(1), Check.STATE);
        C.due("plugs(1)", x.plugs(1), Check.STATE);
        C.due("now(0) as it was", x.now(0), 99999);
        C.sentence("HOUR is one more (99999 at most)");
        C.due("what will be is told all the same", x.ahead(9, 4, 60), 44);
    }

    private static void promise12What() {
        C.sentence("What 0 HOUR, 1 WARMTH of all TUBS together, 2 all SCENTS of all TUBS together .. BEYOND.");
        BUSY.argument(0, 0, 5, "now", 0);
        BUSY.onlyAsked(2, "now", 0);
        BUSY.onlyAsked(90 + 86 + 21 + 33 + 12, "now", 1);
        BUSY.onlyAsked(383, "now", 2);
        TubSteps x = new TubSteps();
        for (int tub = 0; tub < 10; tub++) {
            x.warm(tub, 99);
            for (int scent = 0; scent < 4; scent++) {
                x.scent(tub, scent, 9999);
            }
        }
        C.due("now(1) of all that can be", x.now(1), 990);
        C.due("now(2) of all that can be", x.now(2), 399960);
        C.due("count(3)", x.count(3), 990);
        C.due("count(4)", x.count(4), 399960);
    }

    private static void promise12Below40() {
        C.sentence("3 TUBS whose WARMTH is below 40, as a set");
        TubSteps x = new TubSteps();
        C.due("all are 0", x.now(3), 1023);
        for (int tub = 0; tub < 10; tub++) {
            x.warm(tub, 40);
            C.due("40 in " + tub + " and above", x.now(3), 1023 & -(2 << tub));
        }
        for (int tub = 0; tub < 10; tub++) {
            x.warm(tub, 39);
            C.due("39 in " + tub + " alone", x.now(3), 1 << tub);
            x.warm(tub, 41);
        }
        C.due("none", x.now(3), 0);
    }

    private static void promise12WhoKnowAll() {
        C.sentence("4 BATHERS who KNOW all four SCENTS but perhaps their own, as a set");
        NEW.onlyAsked(0, "now", 4);
        for (int own = 0; own < 4; own++) {
            for (int set = 0; set < 16; set++) {
                TubSteps x = Check.spa("sad; sad with " + own + " knows " + set);
                boolean all = set == 15 || set == 15 - (1 << own);
                C.due("of " + own + " who knows " + set, x.now(4), all ? 2 : 0);
            }
        }
        TubSteps x = Edges.full();
        for (int bather = 0; bather < 8; bather++) {
            x.change(bather, 3, 15);
        }
        C.due("all eight", x.now(4), 255);
    }

    private static void promise12WhomNobodyKnows() {
        C.sentence("5 BATHERS whose SCENT nobody else KNOWS, as a set");
        NEW.onlyAsked(0, "now", 5);
        TubSteps alone = Check.spa("sad with 2 knows 15");
        C.due("one alone who knows its own", alone.now(5), 1);
        alone.bather(0, 0);
        C.due("the other's is known by the first", alone.now(5), 1);
        alone.change(1, 3, 4);
        C.due("and now the first's by the other", alone.now(5), 0);
        TubSteps x = Edges.full();
        for (int bather = 0; bather < 8; bather++) {
            x.change(bather, 3, 0);
        }
        C.due("all eight", x.now(5), 255);
        x.change(7, 3, 1);
        C.due("the last knows the scent of seven", x.now(5), 128);
    }

    private static void promise13Ahead() {
        C.sentence("What a TUB has behind n (0 to 60) HOURS: what 0 to 3 of SCENT 0 to 3, 4 WARMTH. BEYOND.");
        BUSY.argument(0, 0, 9, "ahead", 3, 4, 5);
        BUSY.argument(1, 0, 4, "ahead", 3, 4, 5);
        BUSY.argument(2, 0, 60, "ahead", 3, 4, 5);
        BUSY.onlyAsked(333, "ahead", 3, 3, 0);
        BUSY.onlyAsked(33, "ahead", 3, 4, 0);
        BUSY.onlyAsked(249, "ahead", 4, 3, 1);
        BUSY.refused(Check.BEYOND, "ahead", 10, 5, 61);
        TubSteps x = Edges.busy();
        x.go(40);
        x.go(20);
        for (int tub = 0; tub < 10; tub++) {
            for (int what = 0; what < 5; what++) {
                BUSY.onlyAsked(x.tub(tub, what), "ahead", tub, what, 60);
            }
        }
    }

    private static void promise14Knows() {
        C.sentence("What a BATHER KNOWS behind n (0 to 60) HOURS, as a set. BEYOND.");
        BUSY.argument(0, 0, 2, "knows", 0, 5);
        FULL.argument(0, 0, 7, "knows", 0, 5);
        BUSY.argument(1, 0, 60, "knows", 0, 5);
        BUSY.onlyAsked(4, "knows", 0, 0);
        BUSY.onlyAsked(0, "knows", 2, 0);
        // 186 of scent 3 and 96 of the duchess's come to the clerk behind two HOURS
        BUSY.onlyAsked(8, "knows", 1, 1);
        BUSY.onlyAsked(0, "knows", 2, 1);
        BUSY.onlyAsked(12, "knows", 2, 2);
        BUSY.onlyAsked(12, "knows", 2, 60);
        BUSY.refused(Check.BEYOND, "knows", 3, 61);
    }

    private static void promise15When() {
        C.sentence("Behind how many HOURS (0 to 60, the fewest) a BATHER KNOWS a SCENT. BEYOND.");
        BUSY.argument(0, 0, 2, "when", 0, 2);
        FULL.argument(0, 0, 7, "when", 0, 2);
        BUSY.argument(1, 0, 3, "when", 0, 2);
        BUSY.onlyAsked(0, "when", 0, 2);
        BUSY.onlyAsked(0, "when", 1, 3);
        BUSY.onlyAsked(2, "when", 2, 3);
        TubSteps own = Check.spa("sad with 2 knows 4");
        C.due("its own, if it KNOWS it", own.when(0, 2), 0);
        TubSteps far = Check.spa("lamplighter in 9; tub 0 0 of 1 9999");
        C.due("what is furthest up comes down behind nine", far.when(0, 1), 9);
    }

    private static void promise15None() {
        C.sentence("when: NONE.");
        BUSY.refused(Check.NONE, "when", 0, 0);
        BUSY.refused(Check.NONE, "when", 0, 1);
        BUSY.refused(Check.NONE, "when", 2, 0);
        BUSY.refused(Check.BEYOND, "when", 3, 0);
    }

    private static void promise16Cold() {
        C.sentence("Behind how many HOURS (0 to 60, the fewest) WARMTH of a TUB is below v (0 to 99). BEYOND.");
        BUSY.argument(0, 0, 9, "cold", 3, 50);
        BUSY.argument(1, 0, 99, "cold", 3, 50);
        BUSY.onlyAsked(0, "cold", 3, 34);
        BUSY.onlyAsked(1, "cold", 3, 33);
        BUSY.onlyAsked(0, "cold", 3, 99);
        BUSY.onlyAsked(0, "cold", 8, 1);
        BUSY.refused(Check.BEYOND, "cold", 10, 100);
        TubSteps x = new TubSteps();
        for (int tub = 0; tub < 10; tub++) {
            x.warm(tub, 99);
        }
        x.fresh(0);
        C.due("new water is in 9 behind ten", x.cold(9, 63), 10);
        C.due("what was in 0 is there behind nine, and below 64", x.cold(9, 64), 9);
        C.due("in 0 it is there behind one", x.cold(0, 1), 1);
    }

    private static void promise16None() {
        C.sentence("cold: NONE.");
        for (int tub = 0; tub < 10; tub++) {
            NEW.refused(Check.NONE, "cold", tub, 0);
        }
        TubSteps x = new TubSteps();
        x.warm(0, 90);
        C.due("cold(0, 90): it is never below 90", x.cold(0, 90), Check.NONE);
        C.due("cold(0, 91)", x.cold(0, 91), 0);
        BUSY.refused(Check.NONE, "cold", 0, 77);
        BUSY.onlyAsked(1, "cold", 0, 78);
    }

    private static void promise17Left() {
        C.sentence("How much of so much (0 to 9999) is left n (0 to 9) steps further. BEYOND.");
        BUSY.argument(0, 0, 9999, "left", 7, 3);
        BUSY.argument(1, 0, 9, "left", 7, 3);
        BUSY.onlyAsked(9999, "left", 9999, 0);
        BUSY.onlyAsked(7499, "left", 9999, 1);
        BUSY.onlyAsked(750, "left", 9999, 9);
        BUSY.onlyAsked(0, "left", 0, 0);
        BUSY.onlyAsked(0, "left", 0, 9);
        BUSY.refused(Check.BEYOND, "left", 10000, 10);
        C.sentence("Quotients are cut.");
        int[] due = {0, 0, 1, 2, 3, 3, 4, 5, 6};
        for (int much = 0; much < due.length; much++) {
            BUSY.onlyAsked(due[much], "left", much, 1);
        }
    }

    private static void promise18Needed() {
        C.sentence("The least of which v (0 to 500) or more is left n (0 to 9) steps further. BEYOND. NONE: none up to 9999.");
        BUSY.argument(0, 0, 500, "needed", 7, 3);
        BUSY.argument(1, 0, 9, "needed", 7, 3);
        BUSY.onlyAsked(0, "needed", 0, 0);
        BUSY.onlyAsked(0, "needed", 0, 9);
        BUSY.onlyAsked(1, "needed", 1, 0);
        BUSY.onlyAsked(2, "needed", 1, 1);
        BUSY.onlyAsked(500, "needed", 500, 0);
        BUSY.onlyAsked(667, "needed", 500, 1);
        BUSY.onlyAsked(6675, "needed", 500, 9);
        BUSY.refused(Check.BEYOND, "needed", 501, 10);
    }
}

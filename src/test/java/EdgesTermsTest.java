/** The terms, sentence by sentence: edges that are seen in several calls. */
final class EdgesTermsTest {
    private static final Check C = new Check();

    public static void main(String[] args) {
        term1MoreIsLost();
        term1Adds();
        term1ConsulAdds();
        term1LamplighterAdds();
        term1SadAdds();
        term1Cools();
        term1Nose();
        term1Mask();
        term1NotItsOwn();
        term2WaterGoesAStep();
        term2QuotientsAreCut();
        term2ColderNoFurtherThan0();
        term2NewWater();
        term2ByHowAllIsThen();
        term2KnowsToo();
        term2Plug();
        C.end();
    }

    private static TubSteps one(int kind, int tub) {
        TubSteps x = new TubSteps();
        x.bather(kind, tub);
        return x;
    }

    private static void term1MoreIsLost() {
        C.sentence("(0 to 9999; 0 at first; more is lost)");
        // no run comes near 9999: eight CONSULS, warm, in water that had all it could
        TubSteps x = new TubSteps();
        for (int bather = 0; bather < 8; bather++) {
            x.bather(6, 1);
        }
        x.warm(0, 99);
        x.scent(0, 0, 9999);
        int due = 7499;
        for (int bather = 0; bather < 8; bather++) {
            due += 128 + Math.max(95 - 16 * (bather + 1), 0);
        }
        C.due("ahead(1, 0, 1)", x.ahead(1, 0, 1), due);
        C.holds("and there is room", due <= 9999);
    }

    private static void term1Adds() {
        C.sentence("ADDS: BATHER 64, DUCHESS twice, CLERK half, SPY a quarter of a CLERK");
        int[] due = {64, 128, 32, 8, 8, 64, 128};
        for (int kind = 0; kind < 7; kind++) {
            TubSteps x = one(kind, 9);
            C.due("of(0, 4) of kind " + kind, x.of(0, 4), due[kind]);
            C.due("ahead(9, 0, 1) of kind " + kind, x.ahead(9, 0, 1), due[kind]);
            C.due("ahead(8, 0, 1) of kind " + kind, x.ahead(8, 0, 1), 0);
        }
    }

    private static void term1ConsulAdds() {
        C.sentence("CONSUL: as a DUCHESS, and WARMTH of its TUB");
        TubSteps x = one(6, 4);
        for (int warmth : new int[] {0, 1, 50, 98, 99}) {
            x.warm(4, warmth);
            C.due("of(0, 4) in " + warmth, x.of(0, 4), 128 + warmth);
        }
        x.warm(3, 99);
        C.due("of another TUB nothing", x.of(0, 4), 227);
        x.warm(4, 0);
        C.due("of another TUB nothing", x.of(0, 4), 128);
    }

    private static void term1LamplighterAdds() {
        C.sentence("LAMPLIGHTER: as a SPY, and 1 for each SCENT that it KNOWS");
        TubSteps x = one(4, 4);
        for (int set = 0; set < 16; set++) {
            x.change(0, 3, set);
            C.due("of(0, 4) who knows " + set, x.of(0, 4), 8 + Integer.bitCount(set));
        }
        x.change(0, 0, 3);
        C.due("a SPY who knows all", x.of(0, 4), 8);
    }

    private static void term1SadAdds() {
        C.sentence("SAD: 64, if its TUB has none of its SCENT yet, else 0");
        TubSteps x = one(5, 4);
        C.due("none", x.of(0, 4), 64);
        x.scent(4, 0, 1);
        C.due("1", x.of(0, 4), 0);
        x.scent(4, 0, 0);
        x.scent(4, 1, 9999);
        x.scent(3, 0, 9999);
        C.due("none of its own", x.of(0, 4), 64);
        TubSteps two = Check.spa("sad in 4; sad in 4; tub 3 0 of 0 1");
        C.due("three quarters of 1 are none", two.ahead(4, 0, 1), 64);
        two.scent(3, 0, 2);
        C.due("of 2 there is 1", two.ahead(4, 0, 1), 1);
    }

    private static void term1Cools() {
        C.sentence("COOLS: BATHER 5, DUCHESS 3 more, CONSUL twice a DUCHESS, CLERK 2 less, SAD 10");
        int[] due = {5, 8, 3, 3, 3, 10, 16};
        for (int kind = 0; kind < 7; kind++) {
            TubSteps x = one(kind, 0);
            C.due("of(0, 5) of kind " + kind, x.of(0, 5), due[kind]);
            C.due("ahead(0, 4, 1) of kind " + kind, x.ahead(0, 4, 1), 90 - due[kind]);
            C.due("ahead(1, 4, 2) of kind " + kind, x.ahead(1, 4, 2), 86 - due[kind]);
        }
    }

    private static void term1Nose() {
        C.sentence("NOSE: BATHER 100, CONSUL 200 more, CLERK half, SPY 20 less, LAMPLIGHTER 20 less, SAD 400");
        int[] due = {100, 100, 50, 30, 10, 400, 300};
        for (int kind = 0; kind < 7; kind++) {
            TubSteps x = one(kind, 6);
            C.due("of(0, 6) of kind " + kind, x.of(0, 6), due[kind]);
            for (int scent = 1; scent < 4; scent++) {
                x.plug(6);
                x.scent(6, scent, due[kind] - 1);
                C.due("one less than its NOSE, kind " + kind, x.of(0, 7), 0);
                x.scent(6, scent, due[kind]);
                C.due("as much as its NOSE, kind " + kind, x.of(0, 7), 1 << scent);
            }
        }
    }

    private static void term1Mask() {
        C.sentence("MASK of a SCENT in a TUB: an eighth (cut) of all other SCENTS there together");
        TubSteps x = one(0, 6);
        for (int others : new int[] {0, 7, 8, 15, 16, 799, 800, 9999}) {
            x.scent(6, 0, others);
            x.scent(6, 1, 100 + others / 8);
            C.due("as much as NOSE and MASK of " + others, x.of(0, 7), 2);
            x.scent(6, 1, 99 + others / 8);
            C.due("one less, with " + others, x.of(0, 7), 0);
        }
        x.scent(6, 0, 3);
        x.scent(6, 2, 3);
        x.scent(6, 3, 2);
        x.scent(6, 1, 100);
        C.due("three others of 8 together mask 1", x.of(0, 7), 0);
        x.scent(6, 3, 1);
        C.due("of 7 none", x.of(0, 7), 2);
        x.scent(5, 0, 9999);
        x.scent(7, 0, 9999);
        C.due("other TUBS mask nothing", x.of(0, 7), 2);
        TubSteps most = one(4, 6);
        for (int scent = 0; scent < 4; scent++) {
            most.scent(6, scent, 9999);
        }
        C.due("all of all: 9999 against 10 and 3749", most.of(0, 7), 14);
    }

    private static void term1NotItsOwn() {
        C.sentence("One SMELLS a SCENT (not its own)");
        for (int own = 0; own < 4; own++) {
            TubSteps x = one(0, 6);
            x.change(0, 2, own);
            for (int scent = 0; scent < 4; scent++) {
                x.plug(6);
                x.scent(6, scent, 9999);
                C.due("of " + own + ", with 9999 of " + scent, x.of(0, 7), scent == own ? 0 : 1 << scent);
            }
        }
    }

    private static void term2WaterGoesAStep() {
        C.sentence("each TUB has what the one above it had .. what was in TUB 9 is gone");
        TubSteps x = new TubSteps();
        for (int tub = 0; tub < 10; tub++) {
            x.warm(tub, 50 + tub);
            for (int scent = 0; scent < 4; scent++) {
                x.scent(tub, scent, 400 * tub + 4 * scent);
            }
        }
        x.go(1);
        for (int tub = 1; tub < 10; tub++) {
            C.due("tub(" + tub + ", 4)", x.tub(tub, 4), 45 + tub);
            for (int scent = 0; scent < 4; scent++) {
                C.due("tub(" + tub + ", " + scent + ")", x.tub(tub, scent), 300 * (tub - 1) + 3 * scent);
            }
        }
        x.scent(9, 0, 9999);
        x.warm(9, 99);
        x.plug(8);
        x.go(1);
        C.due("what was in 9 is gone", x.tub(9, 6), 0);
        C.due("and its WARMTH", x.tub(9, 4), 0);
    }

    private static void term2QuotientsAreCut() {
        C.sentence("of each SCENT three quarters (cut)");
        TubSteps x = new TubSteps();
        for (int much : new int[] {0, 1, 2, 3, 4, 5, 6, 7, 9997, 9998, 9999}) {
            x.scent(4, 2, much);
            C.due("of " + much, x.ahead(5, 2, 1), much - (much + 3) / 4);
        }
    }

    private static void term2ColderNoFurtherThan0() {
        C.sentence("WARMTH 4 less (0 at least) .. less by what it COOLS (0 at least)");
        TubSteps x = new TubSteps();
        for (int warmth = 0; warmth < 100; warmth++) {
            x.warm(4, warmth);
            C.due("of " + warmth, x.ahead(5, 4, 1), Math.max(warmth - 4, 0));
        }
        int[] cools = {5, 8, 3, 3, 3, 10, 16};
        for (int kind = 0; kind < 7; kind++) {
            TubSteps y = one(kind, 5);
            for (int more = -2; more <= 2; more++) {
                y.warm(4, 4 + cools[kind] + more);
                C.due("kind " + kind + ", " + more + " more than it COOLS", y.ahead(5, 4, 1), Math.max(more, 0));
            }
        }
    }

    private static void term2NewWater() {
        C.sentence("TUB 0 has FRESH and no SCENT");
        for (int fresh : new int[] {0, 1, 98, 99}) {
            TubSteps x = new TubSteps();
            x.fresh(fresh);
            x.warm(0, 55);
            for (int scent = 0; scent < 4; scent++) {
                x.scent(0, scent, 9999);
            }
            x.go(1);
            C.due("tub(0, 4)", x.tub(0, 4), fresh);
            C.due("tub(0, 6)", x.tub(0, 6), 0);
        }
    }

    private static void term2ByHowAllIsThen() {
        C.sentence("BATHERS by numbers: .. its SCENT there is more by what it ADDS (by how all is then)");
        TubSteps x = Check.spa("sad in 5; bather in 5; tub 4 0 of 1 4");
        C.due("the SAD comes first and ADDS", x.ahead(5, 0, 1), 128);
        x.swap(0, 1);
        x.change(0, 0, 0);
        x.change(1, 0, 5);
        C.due("the SAD comes second and does not", x.ahead(5, 0, 1), 64);
        TubSteps consul = Check.spa("consul in 5; tub 4 20");
        C.due("no WARMTH is left behind what it COOLS", consul.ahead(5, 0, 1), 128);
        consul.warm(4, 21);
        C.due("1 is left", consul.ahead(5, 0, 1), 129);
    }

    private static void term2KnowsToo() {
        C.sentence("what it SMELLS then it KNOWS, too");
        TubSteps x = Check.spa("bather in 5 knows 8; tub 4 0 of 1 144");
        C.due("108 against 100 and 8", x.knows(0, 1), 10);
        x.scent(4, 1, 143);
        C.due("107", x.knows(0, 1), 8);
        x.scent(5, 1, 9999);
        C.due("what it SMELLS now it does not KNOW", x.knows(0, 0), 8);
        C.due("nor when that is gone", x.knows(0, 1), 8);
    }

    private static void term2Plug() {
        C.sentence("A PLUG pulled: a TUB has WARMTH 0 and no SCENT");
        for (int tub = 0; tub < 10; tub++) {
            TubSteps x = new TubSteps();
            for (int each = 0; each < 10; each++) {
                x.warm(each, 99);
                for (int scent = 0; scent < 4; scent++) {
                    x.scent(each, scent, 9999);
                }
            }
            C.due("plug(" + tub + ")", x.plug(tub), 39996);
            for (int each = 0; each < 10; each++) {
                C.due("tub(" + each + ", 4)", x.tub(each, 4), each == tub ? 0 : 99);
                C.due("tub(" + each + ", 6)", x.tub(each, 6), each == tub ? 0 : 39996);
            }
            C.due("plug(" + tub + ") again", x.plug(tub), 0);
        }
    }
}

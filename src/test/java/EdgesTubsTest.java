/** Promises 1 to 10, sentence by sentence: the edges of what tubs and bathers can be. */
final class EdgesTubsTest {
    private static final Check C = new Check();
    private static final Edges NEW = new Edges(C, TubSteps::new);
    private static final Edges BUSY = new Edges(C, Edges::busy);
    private static final Edges FULL = new Edges(C, Edges::full);

    public static void main(String[] args) {
        promise1AllAsAtFirst();
        promise1NoBathers();
        promise1TapeAndImage();
        promise2Tubs();
        promise2Warmth();
        promise3TubsAndScents();
        promise3HowMuch();
        promise4What();
        promise4Sets();
        promise4AllScents();
        promise5Fresh();
        promise6Plug();
        promise7New();
        promise7Full();
        promise8Bathers();
        promise8What();
        promise9BathersAndWhat();
        promise9Values();
        promise10Swap();
        promise10OneAndTheSame();
        C.end();
    }

    private static void promise1AllAsAtFirst() {
        C.sentence("All as at first");
        for (int tub = 0; tub < 10; tub++) {
            for (int what = 0; what < 7; what++) {
                NEW.onlyAsked(0, "tub", tub, what);
            }
        }
        NEW.taken(90, "fresh", 0);
        NEW.taken(1, "seed", 0);
        NEW.onlyAsked(0, "now", 0);
        for (int spot = 0; spot < 10; spot++) {
            NEW.refused(Check.MISSING, "as", spot, 0);
        }
        for (int s = 0; s < 4; s++) {
            NEW.refused(Check.MISSING, "load", s);
        }
        for (int which = -1; which < 7; which++) {
            NEW.taken(0, "status", which);
        }
    }

    private static void promise1NoBathers() {
        C.sentence("no BATHERS");
        NEW.onlyAsked(0, "count", 1);
        NEW.refused(Check.BEYOND, "of", 0, 0);
        NEW.refused(Check.BEYOND, "change", 0, 0, 0);
        NEW.refused(Check.BEYOND, "swap", 0, 1);
        NEW.refused(Check.BEYOND, "hold", 0, 0);
        NEW.refused(Check.BEYOND, "knows", 0, 0);
        NEW.refused(Check.BEYOND, "when", 0, 0);
        NEW.refused(Check.BEYOND, "swapFor", 0, 0);
        NEW.refused(Check.BEYOND, "seat", 0, 0);
        NEW.refused(Check.BEYOND, "kindFor", 0, 0);
    }

    private static void promise1TapeAndImage() {
        C.sentence("THE TAPE is empty, no image is kept");
        NEW.taken(0, "wipe");
        NEW.taken(-1, "text");
        NEW.onlyAsked(0, "count", 5);
        NEW.refused(Check.NONE, "undo");
        NEW.taken(0, "tear");
    }

    private static void promise2Tubs() {
        C.sentence("WARMTH of a TUB becomes v: what it was. BEYOND.");
        BUSY.argument(0, 0, 9, "warm", 0, 50);
        BUSY.taken(90, "warm", 0, 50);
        BUSY.taken(12, "warm", 9, 50);
        BUSY.refused(Check.BEYOND, "warm", 10, 100);
    }

    private static void promise2Warmth() {
        C.sentence("WARMTH (0 to 99; 0 at first)");
        BUSY.argument(1, 0, 99, "warm", 3, 0);
        TubSteps x = new TubSteps();
        C.due("warm(3, 99): 0 at first", x.warm(3, 99), 0);
        C.due("warm(3, 0)", x.warm(3, 0), 99);
        C.due("tub(3, 4)", x.tub(3, 4), 0);
    }

    private static void promise3TubsAndScents() {
        C.sentence("How much of a SCENT a TUB has becomes v: what it was. BEYOND.");
        BUSY.argument(0, 0, 9, "scent", 0, 3, 7);
        BUSY.argument(1, 0, 3, "scent", 3, 0, 7);
        BUSY.taken(333, "scent", 3, 3, 7);
        BUSY.taken(50, "scent", 9, 0, 7);
        BUSY.taken(0, "scent", 0, 0, 7);
        TubSteps x = new TubSteps();
        for (int tub = 0; tub < 10; tub++) {
            for (int scent = 0; scent < 4; scent++) {
                x.scent(tub, scent, 100 * tub + scent + 1);
            }
        }
        for (int tub = 0; tub < 10; tub++) {
            for (int scent = 0; scent < 4; scent++) {
                C.due("tub(" + tub + ", " + scent + "): each is its own", x.tub(tub, scent), 100 * tub + scent + 1);
            }
        }
    }

    private static void promise3HowMuch() {
        C.sentence("so much of each SCENT 0 to 3 (0 to 9999; 0 at first");
        BUSY.argument(2, 0, 9999, "scent", 3, 3, 7);
        TubSteps x = new TubSteps();
        C.due("scent(5, 2, 9999): 0 at first", x.scent(5, 2, 9999), 0);
        C.due("scent(5, 2, 0)", x.scent(5, 2, 0), 9999);
        C.due("tub(5, 2)", x.tub(5, 2), 0);
    }

    private static void promise4What() {
        C.sentence("what 0 to 3 how much of SCENT 0 to 3, 4 WARMTH, 5 who is IN it, as a set, 6 all SCENTS together. BEYOND.");
        BUSY.argument(0, 0, 9, "tub", 3, 4);
        BUSY.argument(1, 0, 6, "tub", 3, 4);
        int[] due = {0, 0, 0, 333, 33, 1, 333};
        for (int what = 0; what < 7; what++) {
            BUSY.onlyAsked(due[what], "tub", 3, what);
        }
        BUSY.refused(Check.BEYOND, "tub", -1, 7);
    }

    private static void promise4Sets() {
        C.sentence("each IN a TUB (several may be)");
        TubSteps x = new TubSteps();
        for (int bather = 0; bather < 8; bather++) {
            C.due("who is in 9 behind " + bather, x.tub(9, 5), (1 << bather) - 1);
            x.bather(bather % 7, 9);
        }
        C.due("all eight are in 9", x.tub(9, 5), 255);
        x.change(7, 1, 0);
        C.due("but the last", x.tub(9, 5), 127);
        C.due("who is in 0", x.tub(0, 5), 128);
        C.due("nobody is in 8", x.tub(8, 5), 0);
    }

    private static void promise4AllScents() {
        C.sentence("6 all SCENTS together");
        TubSteps x = new TubSteps();
        for (int scent = 0; scent < 4; scent++) {
            x.scent(9, scent, 9999);
        }
        C.due("tub(9, 6)", x.tub(9, 6), 39996);
        C.due("tub(8, 6)", x.tub(8, 6), 0);
        C.due("plug(9)", x.plug(9), 39996);
        C.due("tub(9, 6)", x.tub(9, 6), 0);
    }

    private static void promise5Fresh() {
        C.sentence("FRESH (WARMTH of new water: 0 to 99; 90 at first)");
        BUSY.argument(0, 0, 99, "fresh", 5);
        BUSY.taken(77, "fresh", 0);
        TubSteps x = new TubSteps();
        C.due("fresh(0): 90 at first", x.fresh(0), 90);
        x.go(1);
        C.due("new water of 0", x.tub(0, 4), 0);
        C.due("fresh(99)", x.fresh(99), 0);
        x.go(1);
        C.due("new water of 99", x.tub(0, 4), 99);
        C.due("fresh(99)", x.fresh(99), 99);
    }

    private static void promise6Plug() {
        C.sentence("A PLUG is pulled: how much of all SCENTS together was in the TUB. BEYOND.");
        BUSY.argument(0, 0, 9, "plug", 3);
        BUSY.taken(333, "plug", 3);
        BUSY.taken(50, "plug", 9);
        BUSY.taken(0, "plug", 0);
        TubSteps x = Edges.busy();
        x.plug(0);
        C.due("WARMTH 0, though no SCENT was there", x.tub(0, 4), 0);
        C.due("the next has what it had", x.tub(1, 4), 86);
    }

    private static void promise7New() {
        C.sentence("A new BATHER IN a TUB: the number. BEYOND.");
        BUSY.argument(0, 0, 6, "bather", 3, 4);
        BUSY.argument(1, 0, 9, "bather", 3, 4);
        NEW.taken(0, "bather", 6, 9);
        BUSY.taken(3, "bather", 6, 9);
        TubSteps x = Edges.busy();
        x.bather(6, 9);
        int[] due = {6, 9, 0, 0};
        for (int what = 0; what < 4; what++) {
            C.due("of(3, " + what + ")", x.of(3, what), due[what]);
        }
    }

    private static void promise7Full() {
        C.sentence("BATHERS 0, 1, .. (at most 8) .. FULL.");
        TubSteps x = new TubSteps();
        for (int bather = 0; bather < 8; bather++) {
            C.due("bather " + bather, x.bather(0, 0), bather);
        }
        C.due("a ninth", x.bather(0, 0), Check.FULL);
        FULL.refused(Check.FULL, "bather", 0, 0);
        FULL.refused(Check.FULL, "bather", 6, 9);
        FULL.refused(Check.BEYOND, "bather", 7, 9);
        FULL.refused(Check.BEYOND, "bather", -1, 0);
        FULL.refused(Check.BEYOND, "bather", 0, 10);
        FULL.refused(Check.BEYOND, "bather", 0, -1);
    }

    private static void promise8Bathers() {
        C.sentence("Of a BATHER: .. BEYOND.");
        BUSY.argument(0, 0, 2, "of", 0, 0);
        FULL.argument(0, 0, 7, "of", 0, 0);
        NEW.refused(Check.BEYOND, "of", 0, 0);
    }

    private static void promise8What() {
        C.sentence("what 0 KIND, 1 TUB, 2 SCENT, 3 what it KNOWS, as a set, 4 ADDS now, 5 COOLS, 6 NOSE, 7 what it SMELLS now");
        BUSY.argument(1, 0, 7, "of", 0, 0);
        int[] due = {5, 3, 1, 4, 64, 10, 400, 0};
        for (int what = 0; what < 8; what++) {
            BUSY.onlyAsked(due[what], "of", 0, what);
        }
        BUSY.refused(Check.BEYOND, "of", 3, 8);
    }

    private static void promise9BathersAndWhat() {
        C.sentence("KIND (what 0), TUB (1), SCENT (2), what it KNOWS (3; 0 to 15) of a BATHER becomes v: what it was. BEYOND.");
        BUSY.argument(0, 0, 2, "change", 0, 0, 3);
        FULL.argument(0, 0, 7, "change", 0, 0, 3);
        BUSY.argument(1, 0, 3, "change", 0, 0, 0);
        BUSY.refused(Check.BEYOND, "change", 3, 4, 16);
        int[] due = {5, 3, 1, 4};
        for (int what = 0; what < 4; what++) {
            BUSY.taken(due[what], "change", 0, what, 0);
        }
    }

    private static void promise9Values() {
        C.sentence("each has bounds of its own: KINDS to 6, TUBS to 9, SCENTS to 3, sets to 15");
        BUSY.argument(2, 0, 6, "change", 0, 0, 1);
        BUSY.argument(2, 0, 9, "change", 0, 1, 1);
        BUSY.argument(2, 0, 3, "change", 0, 2, 1);
        BUSY.argument(2, 0, 15, "change", 0, 3, 1);
        int[] most = {6, 9, 3, 15};
        for (int what = 0; what < 4; what++) {
            TubSteps x = Edges.busy();
            x.change(1, what, most[what]);
            C.due("of(1, " + what + ")", x.of(1, what), most[what]);
            C.due("of(0, " + what + ") as it was", x.of(0, what), Edges.busy().of(0, what));
            x.change(1, what, 0);
            C.due("of(1, " + what + ")", x.of(1, what), 0);
        }
    }

    private static void promise10Swap() {
        C.sentence("Two BATHERS change TUBS: 1, 0 if these are one and the same. BEYOND");
        BUSY.argument(0, 0, 1, "swap", 0, 2);
        BUSY.argument(1, 1, 2, "swap", 0, 2);
        FULL.argument(0, 0, 6, "swap", 0, 7);
        FULL.argument(1, 1, 7, "swap", 0, 7);
        BUSY.refused(Check.BEYOND, "swap", 3, 0);
        BUSY.refused(Check.BEYOND, "swap", 0, 3);
        BUSY.taken(1, "swap", 0, 2);
        TubSteps x = Edges.busy();
        x.change(2, 1, 3);
        C.due("swap(0, 2) in one and the same TUB", x.swap(0, 2), 0);
        C.due("of(0, 1)", x.of(0, 1), 3);
        C.due("of(2, 1)", x.of(2, 1), 3);
        C.due("it is no finding", x.status(-1), 0);
        TubSteps ends = Edges.full();
        C.due("swap(0, 7)", ends.swap(0, 7), 1);
        C.due("of(0, 1)", ends.of(0, 1), 7);
        C.due("of(7, 1)", ends.of(7, 1), 0);
        C.due("tub(0, 5)", ends.tub(0, 5), 128);
        C.due("tub(7, 5)", ends.tub(7, 5), 1);
    }

    private static void promise10OneAndTheSame() {
        C.sentence("BEYOND: also one and the same BATHER.");
        for (int bather = -1; bather < 4; bather++) {
            BUSY.refused(Check.BEYOND, "swap", bather, bather);
        }
        FULL.refused(Check.BEYOND, "swap", 7, 7);
    }
}

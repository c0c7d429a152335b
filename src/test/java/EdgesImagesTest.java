/** Promises 41 to 45, sentence by sentence: the edges of images, counts and findings. */
final class EdgesImagesTest {
    private static final Check C = new Check();
    private static final Edges NEW = new Edges(C, TubSteps::new);
    private static final Edges BUSY = new Edges(C, Edges::busy);
    private static final Edges FULL = new Edges(C, Edges::full);

    public static void main(String[] args) {
        promise41Image();
        promise41AllButTapeAndSheets();
        promise42Undo();
        promise42None();
        promise42Latest();
        promise43Tear();
        promise44What();
        promise44EmptyAndFull();
        promise45Which();
        promise45UndoTakesNoneBack();
        promise45EachFinding();
        lastOf512Calls();
        C.end();
    }

    private static void promise41Image() {
        C.sentence("All but THE TAPE and SHEETS is kept: 1.");
        NEW.taken(1, "image");
        BUSY.taken(1, "image");
        FULL.taken(1, "image");
        TubSteps x = Edges.busy();
        TubSteps twin = Edges.busy();
        x.image();
        twin.image();
        C.due("undo() at once", x.undo(), 2);
        Seen.alike(C, "image() and undo()", Seen.all(x), Seen.all(twin));
    }

    /** Everything that a call can change. */
    private static void changeAll(TubSteps x) {
        for (int tub = 0; tub < 10; tub++) {
            x.warm(tub, 60 + tub);
            for (int scent = 0; scent < 4; scent++) {
                x.scent(tub, scent, 500 + 10 * tub + scent);
            }
        }
        for (int bather = 0; bather < 3; bather++) {
            x.change(bather, 0, 6 - bather);
            x.change(bather, 1, 9 - bather);
            x.change(bather, 2, 3 - bather);
            x.change(bather, 3, 15 - bather);
        }
        x.bather(1, 1);
        for (int spot = 0; spot < 10; spot++) {
            x.hold(spot, 3);
        }
        x.fresh(11);
        x.seed(12);
        x.plugs(3);
        x.go(4);
    }

    private static void promise41AllButTapeAndSheets() {
        C.sentence("All but THE TAPE and SHEETS is kept");
        TubSteps x = Edges.busy();
        TubSteps twin = Edges.busy();
        x.image();
        twin.image();
        changeAll(x);
        C.due("undo()", x.undo(), 2);
        Seen.alike(C, "image(), all changed, undo()", Seen.all(x), Seen.all(twin));
        TubSteps other = Edges.busy();
        other.image();
        other.wipe();
        Check.feed(other, "plug 0");
        Check.fill(other, 0, 16, 31, 32);
        other.sheet(1, 0, 0);
        Check.fill(other, 3, 8, 7);
        other.undo();
        C.due("the tape is as it became", other.count(5), 6);
        C.due("sheet 0 is as it became", other.load(0), 2);
        C.due("its number 1", other.tub(1, 4), 32);
        C.due("sheet 1 is MISSING as it became", other.load(1), Check.MISSING);
        C.due("sheet 3 is there as it became", other.load(3), 1);
    }

    private static void promise42Undo() {
        C.sentence("It becomes what was kept latest (which stays): HOUR.");
        BUSY.taken(2, "undo");
        TubSteps x = new TubSteps();
        x.image();
        x.go(40);
        C.due("HOUR 0", x.undo(), 0);
        C.due("now(0)", x.now(0), 0);
        TubSteps again = Edges.busy();
        TubSteps twin = Edges.busy();
        twin.undo();
        for (int i = 0; i < 3; i++) {
            C.due("undo(), time " + i, again.undo(), 2);
            changeAll(again);
        }
        C.due("undo()", again.undo(), 2);
        Seen.alike(C, "four times undo()", Seen.all(again), Seen.all(twin));
    }

    private static void promise42None() {
        C.sentence("NONE: nothing is kept.");
        NEW.refused(Check.NONE, "undo");
        FULL.refused(Check.NONE, "undo");
        new Edges(C, () -> {
            TubSteps x = Edges.busy();
            x.tear();
            return x;
        }).refused(Check.NONE, "undo");
    }

    private static void promise42Latest() {
        C.sentence("what was kept latest");
        TubSteps x = new TubSteps();
        for (int hour = 0; hour < 5; hour++) {
            x.image();
            x.go(1);
            C.due("undo() to the latest of " + (hour + 1), x.undo(), hour);
            x.go(1);
        }
        C.due("undo()", x.undo(), 4);
        TubSteps fewer = new TubSteps();
        fewer.image();
        for (int i = 0; i < 8; i++) {
            fewer.bather(5, 5);
            fewer.hold(i, i);
        }
        fewer.undo();
        C.due("the eight are gone", fewer.count(1), 0);
        C.due("nobody is in 5", fewer.tub(5, 5), 0);
        C.due("spots hold nothing", fewer.count(7), 0);
        C.due("of(0, 0)", fewer.of(0, 0), Check.BEYOND);
        C.due("hold(0, 0)", fewer.hold(0, 0), Check.BEYOND);
        C.due("as(0, 0)", fewer.as(0, 0), Check.MISSING);
        for (int i = 0; i < 8; i++) {
            C.due("there is room for a new one", fewer.bather(0, 0), i);
        }
        C.due("but for a ninth", fewer.bather(0, 0), Check.FULL);
        fewer.image();
        fewer.undo();
        C.due("nor behind an image of eight", fewer.bather(0, 0), Check.FULL);
    }

    private static void promise43Tear() {
        C.sentence("Nothing is kept: 1 if something was, else 0.");
        NEW.taken(0, "tear");
        BUSY.taken(1, "tear");
        TubSteps x = Edges.busy();
        C.due("tear()", x.tear(), 1);
        C.due("tear() again", x.tear(), 0);
        C.due("all is as it was", x.tub(2, 4), 21);
        C.due("image()", x.image(), 1);
        C.due("tear() of a new one", x.tear(), 1);
        C.due("no finding", x.status(-1), 0);
    }

    private static void promise44What() {
        C.sentence("BEYOND: another what.");
        BUSY.argument(0, 0, 7, "count", 0);
        int[] due = {2, 3, 2, 242, 383, 8, 9, 2};
        for (int what = 0; what < 8; what++) {
            BUSY.onlyAsked(due[what], "count", what);
        }
    }

    private static void promise44EmptyAndFull() {
        C.sentence("1 BATHERS, 2 how many pairs of a BATHER and a SCENT that it KNOWS, .. 5 bytes of THE TAPE, .. 7 SPOTS that hold something");
        for (int what = 0; what < 8; what++) {
            NEW.onlyAsked(what == 6 ? 1 : 0, "count", what);
        }
        TubSteps x = Edges.full();
        for (int bather = 0; bather < 8; bather++) {
            x.change(bather, 3, 15);
        }
        for (int spot = 0; spot < 10; spot++) {
            x.hold(spot, 7);
        }
        C.due("count(1)", x.count(1), 8);
        C.due("count(2)", x.count(2), 32);
        C.due("count(5)", x.count(5), 120);
        C.due("count(7)", x.count(7), 10);
    }

    private static void promise45Which() {
        C.sentence("which -1: all, 0 to 6: BEYOND to SIZE. BEYOND (counted from then on): another one.");
        for (int which : new int[] {-2, 7, Integer.MIN_VALUE, Integer.MAX_VALUE}) {
            BUSY.refused(Check.BEYOND, "status", which);
            NEW.refused(Check.BEYOND, "status", which);
        }
        for (int which = -1; which < 7; which++) {
            BUSY.onlyAsked(0, "status", which);
        }
        TubSteps x = new TubSteps();
        for (int i = 1; i <= 5; i++) {
            C.due("status(7)", x.status(7), Check.BEYOND);
            C.due("status(0)", x.status(0), i);
            C.due("status(-1)", x.status(-1), i);
        }
    }

    private static void promise45UndoTakesNoneBack() {
        C.sentence("How many acts answered a finding ever (undo() takes none back)");
        TubSteps x = Edges.busy();
        x.image();
        x.warm(10, 0);
        x.sheet(0, 8, -1);
        x.undo();
        C.due("status(0)", x.status(0), 1);
        C.due("status(6)", x.status(6), 1);
        x.tear();
        x.undo();
        C.due("status(3)", x.status(3), 1);
        C.due("status(-1)", x.status(-1), 3);
    }

    private static void promise45EachFinding() {
        C.sentence("LOW BEYOND, LOW - 1 FULL, LOW - 2 KIND, LOW - 3 NONE, LOW - 4 STATE, LOW - 5 MISSING, LOW - 6 SIZE (in longs, too)");
        TubSteps x = Edges.full();
        for (int i = 0; i < 2500; i++) {
            x.go(i == 2499 ? 39 : 40);
        }
        long[] got = {x.warm(10, 0), x.bather(0, 0), x.as(9, 5), x.undo(), x.go(1), x.judge(1), x.sheet(1, 8, -1)};
        for (int which = 0; which < 7; which++) {
            C.due("the finding of " + which, got[which], -1000001 - which);
            C.due("status(" + which + ")", x.status(which), 1);
        }
        C.due("status(-1)", x.status(-1), 7);
        C.due("odds(19, 0), a long", x.odds(19, 0), -1000001L);
        C.due("status(0)", x.status(0), 2);
        C.due("status(-1)", x.status(-1), 8);
    }

    private static void lastOf512Calls() {
        C.sentence("An object is used for at most 512 calls after it has been made");
        TubSteps x = new TubSteps();
        for (int i = 0; i < 511; i++) {
            x.go(40);
        }
        C.due("the last of 512 calls", x.count(0), 511 * 40);
        TubSteps refused = new TubSteps();
        for (int i = 0; i < 511; i++) {
            refused.go(0);
        }
        C.due("all but the last were refused", refused.status(-1), 511);
    }
}

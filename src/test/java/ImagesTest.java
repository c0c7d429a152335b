/** Promises 41 to 45: images, counts and findings. */
final class ImagesTest {
    private static final Check C = new Check();

    public static void main(String[] args) {
        promise41And42AllIsKept();
        promise41TapeAndSheetsAreNot();
        promise42LatestStays();
        promise43Tear();
        promise44Count();
        promise45Status();
        promise45EachFinding();
        C.end();
    }

    private static void promise41And42AllIsKept() {
        TubSteps x = Check.spa("sad in 3 with 1 knows 4; tub 3 33 of 3 333; fresh 77");
        x.go(2);
        x.seed(9);
        x.hold(5, 0);
        int warmth = x.now(1);
        int scents = x.now(2);
        C.due("image()", x.image(), 1);
        x.go(5);
        x.plugs(3);
        x.fresh(1);
        x.change(0, 0, 1);
        x.change(0, 1, 1);
        x.change(0, 2, 2);
        x.change(0, 3, 15);
        x.bather(1, 1);
        x.hold(6, 1);
        x.hold(5, 1);
        C.due("undo()", x.undo(), 2);
        C.due("now(0)", x.now(0), 2);
        C.due("now(1)", x.now(1), warmth);
        C.due("now(2)", x.now(2), scents);
        C.due("count(1)", x.count(1), 1);
        C.due("count(6)", x.count(6), 9);
        C.due("count(7)", x.count(7), 1);
        C.due("as(5, 5)", x.as(5, 5), 0);
        C.due("of(0, 1)", x.of(0, 1), 3);
        C.due("of(0, 2)", x.of(0, 2), 1);
        C.due("of(0, 3)", x.of(0, 3), 4);
        C.due("fresh(5)", x.fresh(5), 77);
        C.due("a new one has the number that is free again", x.bather(2, 2), 1);
        C.due("and nothing of the one that was", x.of(1, 0), 2);
    }

    private static void promise41TapeAndSheetsAreNot() {
        TubSteps x = new TubSteps();
        Check.feed(x, "sad");
        Check.fill(x, 0, 8, 1, 2, 3);
        x.image();
        Check.feed(x, ";spy");
        Check.fill(x, 0, 8, 7, 8);
        Check.fill(x, 1, 16, 9);
        x.undo();
        C.due("count(5)", x.count(5), 7);
        C.due("load(0)", x.load(0), 2);
        C.due("tub(0, 4)", x.tub(0, 4), 7);
        C.due("load(1)", x.load(1), 1);
        C.due("text()", x.text(), 2);
    }

    private static void promise42LatestStays() {
        TubSteps x = new TubSteps();
        C.due("undo() of nothing", x.undo(), Check.NONE);
        x.image();
        x.go(3);
        x.image();
        x.go(4);
        C.due("undo(): the latest", x.undo(), 3);
        x.go(1);
        x.warm(9, 9);
        C.due("undo(): it stays", x.undo(), 3);
        C.due("tub(9, 4): and is not what is changed later", x.tub(9, 4), 0);
    }

    private static void promise43Tear() {
        TubSteps x = new TubSteps();
        C.due("tear() of nothing", x.tear(), 0);
        x.image();
        x.go(1);
        C.due("tear()", x.tear(), 1);
        C.due("tear() again", x.tear(), 0);
        C.due("undo()", x.undo(), Check.NONE);
        C.due("now(0)", x.now(0), 1);
        x.image();
        C.due("undo() of a new image", x.undo(), 1);
    }

    private static void promise44Count() {
        TubSteps x = Check.spa("sad in 3 knows 5; spy knows 15; clerk; tub 3 33 of 3 333; tub 4 44 of 0 444");
        x.hold(0, 0);
        x.hold(9, 0);
        x.hold(5, 2);
        x.hold(5, -1);
        x.seed(-77);
        Check.feed(x, "abc");
        int[] due = {0, 3, 6, 77, 777, 3, -77, 2};
        for (int what = 0; what < 8; what++) {
            C.due("count(" + what + ")", x.count(what), due[what]);
        }
        x.go(7);
        C.due("count(0)", x.count(0), 7);
        C.due("count(8)", x.count(8), Check.BEYOND);
        C.due("count(-1)", x.count(-1), Check.BEYOND);
    }

    private static void promise45Status() {
        TubSteps x = new TubSteps();
        x.warm(10, 0);
        x.image();
        x.warm(10, 0);
        x.undo();
        C.due("undo() takes none back", x.status(0), 2);
        C.due("status(7)", x.status(7), Check.BEYOND);
        C.due("it is counted", x.status(0), 3);
        C.due("status(-2)", x.status(-2), Check.BEYOND);
        C.due("it is counted", x.status(0), 4);
        C.due("status(-1)", x.status(-1), 4);
        x.odds(19, 0);
        C.due("findings in longs are counted", x.status(0), 5);
        x.seed(-1000004);
        x.count(6);
        x.seed(-1000004);
        Check.read(x, "x");
        C.due("answers that only look like findings are not", x.status(-1), 5);
    }

    private static void promise45EachFinding() {
        TubSteps x = Check.spa("sad; sad; sad; sad; sad; sad; sad; sad");
        x.now(9);
        for (int i = 0; i < 2; i++) {
            x.bather(0, 0);
        }
        x.hold(0, 0);
        for (int i = 0; i < 3; i++) {
            x.as(0, 1);
        }
        for (int i = 0; i < 4; i++) {
            x.when(0, 1);
        }
        for (int i = 0; i < 6; i++) {
            x.load(0);
        }
        for (int i = 0; i < 7; i++) {
            x.sheet(0, 8, -1);
        }
        int[] due = {1, 2, 3, 4, 0, 6, 7};
        int all = 0;
        for (int which = 0; which < 7; which++) {
            C.due("status(" + which + ")", x.status(which), due[which]);
            all += due[which];
        }
        C.due("status(-1)", x.status(-1), all);
    }
}

/** Promises 1 to 10: a new object, tubs and bathers. */
final class TubsTest {
    private static final Check C = new Check();

    public static void main(String[] args) {
        promise1NewObject();
        promise2Warm();
        promise3Scent();
        promise4Tub();
        promise5Fresh();
        promise6Plug();
        promise7Bather();
        promise8OfKinds();
        promise8OfSmells();
        promise9Change();
        promise10Swap();
        C.end();
    }

    private static void promise1NewObject() {
        TubSteps x = new TubSteps();
        for (int tub = 0; tub < 10; tub++) {
            for (int what = 0; what < 7; what++) {
                C.due("new: tub(" + tub + ", " + what + ")", x.tub(tub, what), 0);
            }
        }
        for (int what = 0; what < 8; what++) {
            C.due("new: count(" + what + ")", x.count(what), what == 6 ? 1 : 0);
        }
        for (int which = -1; which < 7; which++) {
            C.due("new: status(" + which + ")", x.status(which), 0);
        }
        for (int spot = 0; spot < 10; spot++) {
            C.due("new: as(" + spot + ", 0)", x.as(spot, 0), Check.MISSING);
        }
        for (int s = 0; s < 4; s++) {
            C.due("new: judge(" + s + ")", x.judge(s), Check.MISSING);
        }
        C.due("new: fresh(90)", x.fresh(90), 90);
        C.due("new: undo()", x.undo(), Check.NONE);
        C.due("new: tear()", x.tear(), 0);
        C.due("new: wipe()", x.wipe(), 0);
        C.due("new: of(0, 0)", x.of(0, 0), Check.BEYOND);
        TubSteps other = new TubSteps();
        x.warm(3, 50);
        C.due("another object: tub(3, 4)", other.tub(3, 4), 0);
    }

    private static void promise2Warm() {
        TubSteps x = new TubSteps();
        C.due("warm(0, 99)", x.warm(0, 99), 0);
        C.due("warm(0, 0)", x.warm(0, 0), 99);
        C.due("warm(9, 42)", x.warm(9, 42), 0);
        C.due("tub(9, 4)", x.tub(9, 4), 42);
        C.due("tub(8, 4)", x.tub(8, 4), 0);
        C.due("warm(-1, 5)", x.warm(-1, 5), Check.BEYOND);
        C.due("warm(10, 5)", x.warm(10, 5), Check.BEYOND);
        C.due("warm(9, -1)", x.warm(9, -1), Check.BEYOND);
        C.due("warm(9, 100)", x.warm(9, 100), Check.BEYOND);
        C.due("tub(9, 4) as it was", x.tub(9, 4), 42);
    }

    private static void promise3Scent() {
        TubSteps x = new TubSteps();
        C.due("scent(0, 0, 9999)", x.scent(0, 0, 9999), 0);
        C.due("scent(0, 0, 0)", x.scent(0, 0, 0), 9999);
        C.due("scent(9, 3, 7)", x.scent(9, 3, 7), 0);
        C.due("tub(9, 3)", x.tub(9, 3), 7);
        C.due("tub(9, 2)", x.tub(9, 2), 0);
        C.due("scent(-1, 0, 1)", x.scent(-1, 0, 1), Check.BEYOND);
        C.due("scent(10, 0, 1)", x.scent(10, 0, 1), Check.BEYOND);
        C.due("scent(9, -1, 1)", x.scent(9, -1, 1), Check.BEYOND);
        C.due("scent(9, 4, 1)", x.scent(9, 4, 1), Check.BEYOND);
        C.due("scent(9, 3, -1)", x.scent(9, 3, -1), Check.BEYOND);
        C.due("scent(9, 3, 10000)", x.scent(9, 3, 10000), Check.BEYOND);
        C.due("now(2) as it was", x.now(2), 7);
    }

    private static void promise4Tub() {
        TubSteps x = Check.spa("tub 4 33 of 0 1; tub 4 33 of 1 20; tub 4 33 of 2 300; tub 4 33 of 3 4000; sad in 4; spy in 3; sad in 4");
        C.due("tub(4, 0)", x.tub(4, 0), 1);
        C.due("tub(4, 1)", x.tub(4, 1), 20);
        C.due("tub(4, 2)", x.tub(4, 2), 300);
        C.due("tub(4, 3)", x.tub(4, 3), 4000);
        C.due("tub(4, 4)", x.tub(4, 4), 33);
        C.due("tub(4, 5)", x.tub(4, 5), 5);
        C.due("tub(3, 5)", x.tub(3, 5), 2);
        C.due("tub(0, 5)", x.tub(0, 5), 0);
        C.due("tub(4, 6)", x.tub(4, 6), 4321);
        C.due("tub(4, 7)", x.tub(4, 7), Check.BEYOND);
        C.due("tub(4, -1)", x.tub(4, -1), Check.BEYOND);
        C.due("tub(-1, 4)", x.tub(-1, 4), Check.BEYOND);
        C.due("tub(10, 4)", x.tub(10, 4), Check.BEYOND);
    }

    private static void promise5Fresh() {
        TubSteps x = new TubSteps();
        C.due("fresh(0)", x.fresh(0), 90);
        C.due("fresh(99)", x.fresh(99), 0);
        C.due("fresh(100)", x.fresh(100), Check.BEYOND);
        C.due("fresh(-1)", x.fresh(-1), Check.BEYOND);
        x.go(1);
        C.due("tub(0, 4) is what is fresh", x.tub(0, 4), 99);
    }

    private static void promise6Plug() {
        TubSteps x = Check.spa("tub 4 33 of 0 100; tub 4 33 of 3 50; tub 5 44 of 1 7; sad in 4");
        C.due("plug(4)", x.plug(4), 150);
        C.due("tub(4, 6)", x.tub(4, 6), 0);
        C.due("tub(4, 4)", x.tub(4, 4), 0);
        C.due("tub(4, 5): who is in it stays", x.tub(4, 5), 1);
        C.due("tub(5, 4)", x.tub(5, 4), 44);
        C.due("tub(5, 6)", x.tub(5, 6), 7);
        C.due("plug(4) again", x.plug(4), 0);
        C.due("plug(-1)", x.plug(-1), Check.BEYOND);
        C.due("plug(10)", x.plug(10), Check.BEYOND);
    }

    private static void promise7Bather() {
        TubSteps x = new TubSteps();
        C.due("bather(-1, 0)", x.bather(-1, 0), Check.BEYOND);
        C.due("bather(7, 0)", x.bather(7, 0), Check.BEYOND);
        C.due("bather(0, -1)", x.bather(0, -1), Check.BEYOND);
        C.due("bather(0, 10)", x.bather(0, 10), Check.BEYOND);
        for (int kind = 0; kind < 7; kind++) {
            C.due("bather(" + kind + ", " + (9 - kind) + ")", x.bather(kind, 9 - kind), kind);
            C.due("its kind", x.of(kind, 0), kind);
            C.due("its tub", x.of(kind, 1), 9 - kind);
            C.due("its scent", x.of(kind, 2), 0);
            C.due("what it knows", x.of(kind, 3), 0);
        }
        C.due("bather(0, 9)", x.bather(0, 9), 7);
        C.due("a ninth", x.bather(0, 9), Check.FULL);
        C.due("a ninth of no kind", x.bather(7, 9), Check.BEYOND);
        C.due("count(1)", x.count(1), 8);
    }

    private static void promise8OfKinds() {
        TubSteps x = new TubSteps();
        x.warm(3, 41);
        int[] adds = {64, 128, 32, 8, 8, 64, 128 + 41};
        int[] cools = {5, 8, 3, 3, 3, 10, 16};
        int[] noses = {100, 100, 50, 30, 10, 400, 300};
        for (int kind = 0; kind < 7; kind++) {
            x.bather(kind, 3);
            C.due("of(" + kind + ", 4)", x.of(kind, 4), adds[kind]);
            C.due("of(" + kind + ", 5)", x.of(kind, 5), cools[kind]);
            C.due("of(" + kind + ", 6)", x.of(kind, 6), noses[kind]);
        }
        x.change(4, 3, 11);
        C.due("a lamplighter who knows three", x.of(4, 4), 11);
        x.change(3, 3, 11);
        C.due("a spy who knows three", x.of(3, 4), 8);
        x.scent(3, 0, 1);
        C.due("a sad one whose scent is there", x.of(5, 4), 0);
        x.change(5, 2, 1);
        C.due("a sad one of another scent", x.of(5, 4), 64);
        C.due("of(8, 0)", x.of(8, 0), Check.BEYOND);
        C.due("of(7, 0)", x.of(7, 0), Check.BEYOND);
        C.due("of(-1, 0)", x.of(-1, 0), Check.BEYOND);
        C.due("of(0, 8)", x.of(0, 8), Check.BEYOND);
        C.due("of(0, -1)", x.of(0, -1), Check.BEYOND);
    }

    private static void promise8OfSmells() {
        TubSteps x = new TubSteps();
        x.bather(0, 6);
        x.scent(6, 1, 99);
        C.due("99 are below the nose", x.of(0, 7), 0);
        x.scent(6, 1, 100);
        C.due("100 are as much as the nose", x.of(0, 7), 2);
        x.scent(6, 2, 4);
        x.scent(6, 0, 3);
        C.due("an eighth of 7 is cut to 0", x.of(0, 7), 2);
        x.scent(6, 0, 4);
        C.due("an eighth of 8 masks 1, its own scent too", x.of(0, 7), 0);
        x.scent(6, 1, 101);
        C.due("101 are as much as nose and mask", x.of(0, 7), 2);
        x.scent(6, 0, 9999);
        x.change(0, 1, 6);
        C.due("nobody smells its own scent", x.of(0, 7), 0);
        x.change(0, 2, 3);
        C.due("of another scent it does", x.of(0, 7), 1);
        x.scent(6, 3, 5000);
        x.scent(6, 2, 1990);
        C.due("(9999 + 5000 + 101) / 8 is 1887, and 100", x.of(0, 7), 5);
        x.scent(6, 2, 1986);
        C.due("1986 are not enough for 1987", x.of(0, 7), 1);
    }

    private static void promise9Change() {
        TubSteps x = Check.spa("sad in 4 with 2 knows 9; spy");
        C.due("change(0, 0, 6)", x.change(0, 0, 6), 5);
        C.due("change(0, 1, 9)", x.change(0, 1, 9), 4);
        C.due("change(0, 2, 3)", x.change(0, 2, 3), 2);
        C.due("change(0, 3, 15)", x.change(0, 3, 15), 9);
        C.due("kind", x.of(0, 0), 6);
        C.due("tub", x.of(0, 1), 9);
        C.due("scent", x.of(0, 2), 3);
        C.due("knows", x.of(0, 3), 15);
        C.due("change(0, 0, 7)", x.change(0, 0, 7), Check.BEYOND);
        C.due("change(0, 1, 10)", x.change(0, 1, 10), Check.BEYOND);
        C.due("change(0, 2, 4)", x.change(0, 2, 4), Check.BEYOND);
        C.due("change(0, 3, 16)", x.change(0, 3, 16), Check.BEYOND);
        C.due("change(0, 4, 0)", x.change(0, 4, 0), Check.BEYOND);
        C.due("change(0, -1, 0)", x.change(0, -1, 0), Check.BEYOND);
        C.due("change(2, 0, 0)", x.change(2, 0, 0), Check.BEYOND);
        C.due("change(-1, 0, 0)", x.change(-1, 0, 0), Check.BEYOND);
        for (int what = 0; what < 4; what++) {
            C.due("change(0, " + what + ", -1)", x.change(0, what, -1), Check.BEYOND);
            C.due("change(0, " + what + ", 0)", x.change(0, what, 0), new int[] {6, 9, 3, 15}[what]);
        }
        C.due("the other is as it was", x.of(1, 0), 3);
    }

    private static void promise10Swap() {
        TubSteps x = Check.spa("sad in 4; spy in 7; clerk in 4");
        C.due("swap(0, 1)", x.swap(0, 1), 1);
        C.due("of(0, 1)", x.of(0, 1), 7);
        C.due("of(1, 1)", x.of(1, 1), 4);
        C.due("of(0, 0)", x.of(0, 0), 5);
        C.due("swap(1, 2): in one tub", x.swap(1, 2), 0);
        C.due("swap(1, 1)", x.swap(1, 1), Check.BEYOND);
        C.due("swap(0, 3)", x.swap(0, 3), Check.BEYOND);
        C.due("swap(3, 0)", x.swap(3, 0), Check.BEYOND);
        C.due("swap(-1, 0)", x.swap(-1, 0), Check.BEYOND);
        C.due("swap(0, -1)", x.swap(0, -1), Check.BEYOND);
    }
}

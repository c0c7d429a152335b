/** Promises 34 to 40, sentence by sentence: the edges of spots and sheets. */
final class EdgesSheetsTest {
    private static final int MIN = Integer.MIN_VALUE;
    private static final int MAX = Integer.MAX_VALUE;
    private static final Check C = new Check();
    private static final Edges NEW = new Edges(C, TubSteps::new);
    private static final Edges BUSY = new Edges(C, Edges::busy);
    private static final Edges FULL = new Edges(C, Edges::full);

    public static void main(String[] args) {
        promise34Hold();
        promise34Nothing();
        promise35Bounds();
        promise35Missing();
        promise35Kind();
        promise36Sheets();
        promise36Bits();
        promise36Size();
        promise36AtMost40();
        promise36AllAre0();
        promise36Missing();
        promise37Places();
        promise37LowestBits();
        promise38Sheets();
        promise38Missing();
        promise38Kind();
        promise38Spans();
        promise38AsTheyAllWere();
        promise39Load();
        promise39Ends();
        promise40Judge();
        promise40Places();
        C.end();
    }

    private static void promise34Hold() {
        C.sentence("A SPOT holds a BATHER, or nothing (-1): 1. BEYOND.");
        BUSY.argument(0, 0, 9, "hold", 5, 2);
        BUSY.argument(1, -1, 2, "hold", 5, 2);
        FULL.argument(1, -1, 7, "hold", 9, 2);
        NEW.argument(1, -1, -1, "hold", 9, -1);
        BUSY.refused(Check.BEYOND, "hold", 10, -2);
        BUSY.taken(1, "hold", 0, 0);
        BUSY.taken(1, "hold", 9, 2);
        BUSY.taken(1, "hold", 9, -1);
        TubSteps x = Edges.busy();
        for (int spot = 0; spot < 10; spot++) {
            x.hold(spot, spot % 3);
        }
        for (int spot = 0; spot < 10; spot++) {
            C.due("as(" + spot + ", 0)", x.as(spot, 0), spot % 3);
        }
        C.due("count(7): all ten", x.count(7), 10);
    }

    private static void promise34Nothing() {
        C.sentence("SPOTS 0 to 9 hold a BATHER or nothing (at first)");
        TubSteps x = Edges.busy();
        C.due("a spot that holds one", x.as(5, 0), 0);
        C.due("hold(5, -1)", x.hold(5, -1), 1);
        C.due("it holds nothing then", x.as(5, 0), Check.MISSING);
        C.due("hold(5, -1) again", x.hold(5, -1), 1);
        C.due("count(7)", x.count(7), 1);
        C.due("the other holds what it held", x.as(6, 0), 2);
    }

    private static void promise35Bounds() {
        C.sentence("What a SPOT holds as one of a kind (0 to 6): the number of the BATHER. BEYOND.");
        BUSY.argument(0, 0, 9, "as", 5, 0);
        BUSY.argument(1, 0, 6, "as", 5, 0);
        BUSY.onlyAsked(0, "as", 5, 0);
        BUSY.onlyAsked(0, "as", 5, 5);
        BUSY.onlyAsked(2, "as", 6, 0);
        BUSY.onlyAsked(2, "as", 6, 2);
        FULL.onlyAsked(7, "as", 9, 4);
    }

    private static void promise35Missing() {
        C.sentence("MISSING: it holds nothing.");
        BUSY.refused(Check.MISSING, "as", 0, 0);
        BUSY.refused(Check.MISSING, "as", 9, 6);
        BUSY.refused(Check.BEYOND, "as", 0, 7);
        BUSY.refused(Check.BEYOND, "as", 0, -1);
        BUSY.refused(Check.BEYOND, "as", 10, 0);
    }

    private static void promise35Kind() {
        C.sentence("KIND: it isn't of that kind, nor of one under it.");
        int[] above = {-1, 0, 0, 2, 3, 0, 1};
        for (int kind = 0; kind < 7; kind++) {
            for (int as = 0; as < 7; as++) {
                boolean under = false;
                for (int each = kind; each >= 0; each = above[each]) {
                    under |= each == as;
                }
                TubSteps x = Check.spa("sad");
                x.bather(kind, 0);
                x.hold(9, 1);
                C.due("one of " + kind + " as one of " + as, x.as(9, as), under ? 1 : Check.KIND);
            }
        }
        BUSY.refused(Check.KIND, "as", 5, 6);
        BUSY.refused(Check.KIND, "as", 6, 3);
        BUSY.refused(Check.KIND, "as", 6, 1);
        FULL.refused(Check.KIND, "as", 9, 5);
    }

    private static void promise36Sheets() {
        C.sentence("BEYOND: no such sheet");
        for (int bits : new int[] {0, 8, 16, 32}) {
            BUSY.argument(0, 0, 3, "sheet", 0, bits, 5);
            BUSY.refused(Check.BEYOND, "sheet", 4, bits, -1);
            BUSY.refused(Check.BEYOND, "sheet", -1, bits, -1);
        }
    }

    private static void promise36Bits() {
        C.sentence("of 8, 16 or 32 bits; bits 0 .. BEYOND: .. other bits.");
        for (int bits = -40; bits <= 72; bits++) {
            if (bits == 0 || bits == 8 || bits == 16 || bits == 32) {
                BUSY.taken(bits == 0 ? 0 : 5, "sheet", 0, bits, 5);
            } else {
                C.due("sheet(0, " + bits + ", 5)", Edges.busy().sheet(0, bits, 5), Check.BEYOND);
            }
        }
        for (int bits : new int[] {-1, 1, 7, 9, 15, 17, 24, 31, 33, 64, MIN, MAX, 256 + 8}) {
            BUSY.refused(Check.BEYOND, "sheet", 0, bits, 5);
            BUSY.refused(Check.BEYOND, "sheet", 0, bits, -1);
        }
    }

    private static void promise36Size() {
        C.sentence("SIZE: n is below 0 (also with bits 0).");
        for (int bits : new int[] {0, 8, 16, 32}) {
            BUSY.refused(Check.SIZE, "sheet", 0, bits, -1);
            BUSY.refused(Check.SIZE, "sheet", 3, bits, MIN);
            BUSY.taken(0, "sheet", 0, bits, 0);
        }
    }

    private static void promise36AtMost40() {
        C.sentence("BEYOND: n is above 40.");
        for (int bits : new int[] {8, 16, 32}) {
            BUSY.taken(40, "sheet", 0, bits, 40);
            BUSY.refused(Check.BEYOND, "sheet", 0, bits, 41);
            BUSY.refused(Check.BEYOND, "sheet", 0, bits, MAX);
            TubSteps x = new TubSteps();
            x.sheet(3, bits, 40);
            C.due("write(3, 39, 1)", x.write(3, 39, 1), 1);
            C.due("write(3, 40, 1)", x.write(3, 40, 1), Check.BEYOND);
        }
        BUSY.taken(0, "sheet", 0, 0, 40);
        BUSY.refused(Check.BEYOND, "sheet", 0, 0, 41);
    }

    private static void promise36AllAre0() {
        C.sentence("A sheet has n numbers, all 0");
        TubSteps x = new TubSteps();
        x.sheet(0, 8, 40);
        for (int i = 0; i < 40; i++) {
            x.write(0, i, 77);
        }
        C.due("sheet(0, 8, 40) anew", x.sheet(0, 8, 40), 40);
        x.sheet(1, 8, 10);
        for (int from = 0; from < 40; from += 10) {
            x.copy(0, from, 1, 0, 10);
            x.warm(0, 9);
            x.warm(9, 9);
            C.due("load of numbers from " + from, x.load(1), 10);
            C.due("all are 0", x.now(1), 0);
        }
        for (int i = 0; i < 40; i++) {
            x.write(0, i, 77);
        }
        C.due("fewer of other bits", x.sheet(0, 32, 3), 3);
        C.due("load(0)", x.load(0), 3);
        C.due("all are 0", x.now(1), 0);
        C.due("write(0, 3, 0)", x.write(0, 3, 0), Check.BEYOND);
    }

    private static void promise36Missing() {
        C.sentence("bits 0: it is MISSING: n (0 if it is MISSING)");
        for (int n : new int[] {0, 1, 12, 40}) {
            TubSteps x = Edges.busy();
            C.due("sheet(0, 0, " + n + ")", x.sheet(0, 0, n), 0);
            C.due("load(0)", x.load(0), Check.MISSING);
            C.due("sheet(3, 0, " + n + "), which is MISSING", x.sheet(3, 0, n), 0);
            C.due("load(3)", x.load(3), Check.MISSING);
            C.due("the others are there", x.load(1), 3);
            C.due("it may come back", x.sheet(0, 8, 2), 2);
            C.due("write(0, 2, 0)", x.write(0, 2, 0), Check.BEYOND);
            C.due("load(0)", x.load(0), 2);
        }
    }

    private static void promise37Places() {
        C.sentence("BEYOND: no such sheet. MISSING. BEYOND: no such number.");
        BUSY.argument(0, 0, 3, "write", 0, 0, 1);
        BUSY.argument(1, 0, 11, "write", 0, 0, 1);
        BUSY.argument(1, 0, 2, "write", 1, 0, 1);
        BUSY.taken(1, "write", 0, 11, 1);
        BUSY.refused(Check.BEYOND, "write", 2, 0, 1);
        BUSY.refused(Check.MISSING, "write", 3, 0, 1);
        BUSY.refused(Check.MISSING, "write", 3, -1, 1);
        BUSY.refused(Check.MISSING, "write", 3, 40, 1);
        BUSY.refused(Check.BEYOND, "write", 4, 0, 1);
        BUSY.refused(Check.BEYOND, "write", -1, 0, 1);
        FULL.argument(1, 0, 39, "write", 0, 0, 1);
    }

    /** Is number 0 of a sheet so much? By what comes out below: 0 to 9999. */
    private static boolean isSo(TubSteps x, int s, int much) {
        x.scent(9, 0, much);
        return x.fits(s, 0) == 15;
    }

    private static void promise37LowestBits() {
        C.sentence("Number i of a sheet becomes v (its lowest bits): 1.");
        // bits, what is written, how much it is then (-1: any, -2: nothing that can be)
        int[][] cases = {
            {8, 127, 127}, {8, 128, -2}, {8, 254, -2}, {8, 255, -1}, {8, 256, 0}, {8, 257, 1}, {8, -1, -1}, {8, -128, -2}, {8, -129, 127},
            {8, -256, 0}, {8, MAX, -1}, {8, MIN, 0}, {16, 9999, 9999}, {16, 32767, -2}, {16, 32768, -2}, {16, 65535, -1}, {16, 65536, 0},
            {16, 65536 + 9999, 9999}, {16, 255, 255}, {16, 256, 256}, {16, -1, -1}, {16, -65535, 1}, {16, MAX, -1}, {16, MIN, 0},
            {32, 9999, 9999}, {32, 255, 255}, {32, 65535, -2}, {32, 65536, -2}, {32, -1, -1}, {32, MAX, -2}, {32, MIN, -2}};
        for (int[] each : cases) {
            TubSteps x = Check.spa("sad");
            x.sheet(0, each[0], 1);
            String told = each[1] + " in " + each[0] + " bits";
            C.due(told, x.write(0, 0, each[1]), 1);
            int[] muchs = {0, 1, 5, 126, 127, 128, 254, 255, 256, 9998, 9999};
            for (int much : muchs) {
                C.due(told + " is " + much, isSo(x, 0, much) ? 1 : 0, each[2] == much || each[2] == -1 ? 1 : 0);
            }
        }
        TubSteps x = Edges.busy();
        x.write(0, 1, 99);
        C.due("load(0)", x.load(0), 10);
        C.due("the one ahead is as it was", x.tub(0, 4), 1);
        C.due("it itself", x.tub(1, 4), 99);
        C.due("the next is as it was", x.tub(2, 4), 3);
    }

    private static void promise38Sheets() {
        C.sentence("copy: BEYOND: no such sheet (either).");
        BUSY.argument(0, 0, 3, "copy", 0, 0, 0, 0, 1);
        BUSY.argument(2, 0, 3, "copy", 0, 0, 0, 0, 1);
        BUSY.refused(Check.BEYOND, "copy", 3, 0, 4, 0, 1);
        BUSY.refused(Check.BEYOND, "copy", -1, 0, 3, 0, 1);
        BUSY.refused(Check.BEYOND, "copy", 4, -1, -1, -1, -1);
    }

    private static void promise38Missing() {
        C.sentence("copy: MISSING: one is.");
        BUSY.refused(Check.MISSING, "copy", 3, 0, 0, 0, 0);
        BUSY.refused(Check.MISSING, "copy", 0, 0, 3, 0, 0);
        BUSY.refused(Check.MISSING, "copy", 3, 0, 3, 0, 0);
        BUSY.refused(Check.MISSING, "copy", 3, -1, 0, -1, -1);
        BUSY.refused(Check.MISSING, "copy", 0, 99, 3, 99, 99);
    }

    private static void promise38Kind() {
        C.sentence("KIND: they are not of as many bits.");
        for (int s = 0; s < 3; s++) {
            for (int t = 0; t < 3; t++) {
                if (s != t) {
                    BUSY.refused(Check.KIND, "copy", s, 0, t, 0, 0);
                    BUSY.refused(Check.KIND, "copy", s, -1, t, -1, -1);
                    BUSY.refused(Check.KIND, "copy", s, 41, t, 41, 41);
                } else {
                    BUSY.taken(0, "copy", s, 0, t, 0, 0);
                }
            }
        }
    }

    /** The busy state with two sheets of as many bits: 12 numbers and 3. */
    private static TubSteps pair() {
        TubSteps x = Edges.busy();
        Check.fill(x, 1, 8, 21, 22, 23);
        return x;
    }

    private static void promise38Spans() {
        C.sentence("BEYOND: one has not so many, or from, to or n is below 0.");
        Edges pair = new Edges(C, EdgesSheetsTest::pair);
        pair.argument(1, 0, 9, "copy", 0, 0, 1, 0, 3);
        pair.argument(1, 0, 11, "copy", 0, 0, 1, 0, 1);
        pair.argument(1, 0, 12, "copy", 0, 0, 1, 0, 0);
        pair.argument(3, 0, 0, "copy", 0, 0, 1, 0, 3);
        pair.argument(3, 0, 2, "copy", 0, 0, 1, 0, 1);
        pair.argument(3, 0, 3, "copy", 0, 0, 1, 0, 0);
        pair.argument(4, 0, 3, "copy", 0, 0, 1, 0, 1);
        pair.argument(4, 0, 2, "copy", 0, 10, 1, 0, 1);
        pair.argument(4, 0, 3, "copy", 1, 0, 0, 4, 1);
        pair.argument(4, 0, 2, "copy", 1, 0, 0, 10, 1);
        pair.argument(4, 0, 12, "copy", 0, 0, 0, 0, 1);
        pair.taken(3, "copy", 0, 9, 1, 0, 3);
        pair.taken(0, "copy", 0, 12, 1, 3, 0);
        pair.taken(12, "copy", 0, 0, 0, 0, 12);
        pair.refused(Check.BEYOND, "copy", 0, -1, 1, 0, 0);
        pair.refused(Check.BEYOND, "copy", 0, 0, 1, -1, 0);
        pair.refused(Check.BEYOND, "copy", 0, MAX, 1, 0, MAX);
        pair.refused(Check.BEYOND, "copy", 0, 1, 1, MAX, MAX);
        pair.refused(Check.BEYOND, "copy", 0, MIN, 1, MIN, MIN);
        pair.refused(Check.BEYOND, "copy", 0, MAX, 1, MAX, 2);
        BUSY.taken(0, "copy", 2, 0, 2, 0, 0);
        BUSY.refused(Check.BEYOND, "copy", 2, 0, 2, 0, 1);
        FULL.taken(40, "copy", 0, 0, 0, 0, 40);
        FULL.refused(Check.BEYOND, "copy", 0, 0, 0, 0, 41);
        FULL.refused(Check.BEYOND, "copy", 0, 1, 0, 0, 40);
        FULL.refused(Check.BEYOND, "copy", 0, 0, 0, 1, 40);
    }

    private static void promise38AsTheyAllWere() {
        C.sentence("n numbers of a sheet from one on come to another one from one on (as they all were): n.");
        for (int from = 0; from <= 10; from++) {
            for (int to = 0; to <= 10; to++) {
                for (int n : new int[] {0, 1, 5, 10 - Math.max(from, to)}) {
                    if (n + Math.max(from, to) > 10) {
                        continue;
                    }
                    TubSteps x = new TubSteps();
                    Check.fill(x, 0, 16, 10, 11, 12, 13, 14, 15, 16, 17, 18, 19);
                    C.due(Calls.told("copy", 0, from, 0, to, n), x.copy(0, from, 0, to, n), n);
                    x.load(0);
                    for (int i = 0; i < 10; i++) {
                        int due = i >= to && i < to + n ? 10 + i - to + from : 10 + i;
                        C.due("number " + i + " behind " + Calls.told("copy", 0, from, 0, to, n), x.tub(i, 4), due);
                    }
                }
            }
        }
        TubSteps other = pair();
        other.copy(0, 9, 1, 0, 3);
        C.due("load(1)", other.load(1), 3);
        C.due("number 0", other.tub(0, 4), 10);
        C.due("number 2", other.tub(2, 4), 12);
    }

    private static void promise39Load() {
        C.sentence("load: BEYOND: no such sheet. MISSING.");
        BUSY.argument(0, 0, 3, "load", 0);
        BUSY.refused(Check.MISSING, "load", 3);
        NEW.refused(Check.MISSING, "load", 0);
        BUSY.taken(10, "load", 0);
        BUSY.taken(3, "load", 1);
        BUSY.taken(0, "load", 2);
    }

    private static void promise39Ends() {
        C.sentence("It ends at the first that isn't 0 to 99, or for which there is no TUB.");
        for (int bad : new int[] {-1, 100, 127, -128, 9999, MIN, MAX}) {
            for (int place = 0; place < 10; place++) {
                TubSteps x = new TubSteps();
                x.sheet(0, 32, 10);
                for (int i = 0; i < 10; i++) {
                    x.warm(i, 50);
                    x.write(0, i, i == place ? bad : i % 2 == 0 ? 0 : 99);
                }
                C.due(bad + " at " + place, x.load(0), place);
                for (int i = 0; i < 10; i++) {
                    C.due("tub(" + i + ", 4)", x.tub(i, 4), i >= place ? 50 : i % 2 == 0 ? 0 : 99);
                }
            }
        }
        for (int n = 0; n <= 40; n++) {
            TubSteps x = new TubSteps();
            x.sheet(0, 8, n);
            C.due("load(0) of " + n + " numbers", x.load(0), Math.min(n, 10));
        }
        TubSteps x = new TubSteps();
        Check.fill(x, 0, 8, 1, 2, 3, 4, 5, 6, 7, 8, 9, 10, 100);
        C.due("an eleventh is not looked at", x.load(0), 10);
        C.due("it is no finding", x.status(-1), 0);
    }

    private static void promise40Judge() {
        C.sentence("judge: BEYOND: no such sheet. MISSING.");
        BUSY.argument(0, 0, 3, "judge", 0);
        BUSY.refused(Check.MISSING, "judge", 3);
        NEW.refused(Check.MISSING, "judge", 0);
        BUSY.onlyAsked(0, "judge", 2);
        BUSY.onlyAsked(1, "judge", 0);
        BUSY.onlyAsked(2, "judge", 1);
    }

    private static void promise40Places() {
        C.sentence("numbers of a sheet are what BATHERS 0, 1, .. KNOW, as sets: 0 if so; else 1 and the place of the first that isn't so");
        int[] sets = {0, 15, 1, 8, 7, 14, 5, 10};
        for (int n = 0; n <= 8; n++) {
            TubSteps x = new TubSteps();
            for (int bather = 0; bather < 8; bather++) {
                x.bather(0, 0);
                x.change(bather, 3, sets[bather]);
            }
            x.sheet(0, 8, n);
            for (int i = 0; i < n; i++) {
                x.write(0, i, sets[i]);
            }
            C.due("all " + n + " are so", x.judge(0), 0);
            for (int i = n - 1; i >= 0; i--) {
                x.write(0, i, sets[i] ^ 1);
                C.due("from " + i + " on they are not", x.judge(0), 1 + i);
            }
        }
        TubSteps x = Edges.full();
        Check.fill(x, 1, 8, 0, 0, 0, 0, 0, 0, 0, 6, 0);
        C.due("there is no ninth", x.judge(1), 9);
        Check.fill(x, 1, 32, 16, 0);
        C.due("16 is no set", x.judge(1), 1);
        Check.fill(x, 1, 8, 256);
        C.due("256 in 8 bits is 0", x.judge(1), 0);
        TubSteps none = new TubSteps();
        none.sheet(0, 8, 0);
        C.due("no numbers, no BATHERS", none.judge(0), 0);
        none.sheet(0, 8, 1);
        C.due("a number, but no BATHER", none.judge(0), 1);
    }
}

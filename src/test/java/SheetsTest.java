/** Promises 34 to 40: spots and sheets. */
final class SheetsTest {
    private static final Check C = new Check();

    public static void main(String[] args) {
        promise34Hold();
        promise35As();
        promise36Sheet();
        promise37Write();
        promise38Copy();
        promise38CopyBounds();
        promise39Load();
        promise40Judge();
        C.end();
    }

    private static void promise34Hold() {
        TubSteps x = Check.spa("sad; spy");
        C.due("hold(0, 1)", x.hold(0, 1), 1);
        C.due("hold(9, 0)", x.hold(9, 0), 1);
        C.due("as(0, 0)", x.as(0, 0), 1);
        C.due("as(9, 0)", x.as(9, 0), 0);
        C.due("count(7)", x.count(7), 2);
        C.due("hold(0, -1)", x.hold(0, -1), 1);
        C.due("as(0, 0)", x.as(0, 0), Check.MISSING);
        C.due("count(7)", x.count(7), 1);
        C.due("hold(0, 2)", x.hold(0, 2), Check.BEYOND);
        C.due("hold(0, -2)", x.hold(0, -2), Check.BEYOND);
        C.due("hold(10, 0)", x.hold(10, 0), Check.BEYOND);
        C.due("hold(-1, 0)", x.hold(-1, 0), Check.BEYOND);
        C.due("hold(10, -1)", x.hold(10, -1), Check.BEYOND);
        C.due("count(7)", x.count(7), 1);
    }

    private static void promise35As() {
        // for each kind, the kinds as which one of it may be taken
        int[] takes = {1, 1 + 2, 1 + 4, 1 + 4 + 8, 1 + 4 + 8 + 16, 1 + 32, 1 + 2 + 64};
        TubSteps x = new TubSteps();
        for (int kind = 0; kind < 7; kind++) {
            x.bather(kind, 0);
            x.hold(kind, kind);
            for (int as = 0; as < 7; as++) {
                boolean may = (takes[kind] >> as & 1) != 0;
                C.due("one of " + kind + " as " + as, x.as(kind, as), may ? kind : Check.KIND);
            }
        }
        x.change(3, 0, 1);
        C.due("a spy who became a duchess", x.as(3, 1), 3);
        C.due("is no clerk now", x.as(3, 2), Check.KIND);
        C.due("as(8, 0)", x.as(8, 0), Check.MISSING);
        C.due("as(8, 7)", x.as(8, 7), Check.BEYOND);
        C.due("as(0, -1)", x.as(0, -1), Check.BEYOND);
        C.due("as(10, 0)", x.as(10, 0), Check.BEYOND);
        C.due("as(-1, 0)", x.as(-1, 0), Check.BEYOND);
    }

    private static void promise36Sheet() {
        TubSteps x = new TubSteps();
        C.due("sheet(0, 8, 40)", x.sheet(0, 8, 40), 40);
        C.due("sheet(1, 16, 1)", x.sheet(1, 16, 1), 1);
        C.due("sheet(3, 32, 0)", x.sheet(3, 32, 0), 0);
        C.due("all are 0", x.load(0), 10);
        C.due("one is there", x.load(1), 1);
        C.due("none is there, but the sheet is", x.load(3), 0);
        C.due("sheet(2) is missing", x.load(2), Check.MISSING);
        x.write(0, 0, 5);
        x.write(0, 39, 5);
        C.due("sheet(0, 8, 40) again", x.sheet(0, 8, 40), 40);
        x.warm(0, 50);
        x.load(0);
        C.due("its first is 0 again", x.tub(0, 4), 0);
        C.due("a copy of what is 0 again", x.copy(0, 39, 0, 0, 1), 1);
        x.warm(0, 50);
        x.load(0);
        C.due("tub(0, 4)", x.tub(0, 4), 0);
        C.due("sheet(0, 0, 5): missing", x.sheet(0, 0, 5), 0);
        C.due("load(0)", x.load(0), Check.MISSING);
        C.due("sheet(0, 0, 0): still missing", x.sheet(0, 0, 0), 0);
        C.due("sheet(4, 8, 1)", x.sheet(4, 8, 1), Check.BEYOND);
        C.due("sheet(-1, 8, -1)", x.sheet(-1, 8, -1), Check.BEYOND);
        C.due("sheet(0, 24, 1)", x.sheet(0, 24, 1), Check.BEYOND);
        C.due("sheet(0, 64, -1)", x.sheet(0, 64, -1), Check.BEYOND);
        C.due("sheet(0, -8, 1)", x.sheet(0, -8, 1), Check.BEYOND);
        C.due("sheet(0, 8, -1)", x.sheet(0, 8, -1), Check.SIZE);
        C.due("sheet(1, 0, -1)", x.sheet(1, 0, -1), Check.SIZE);
        C.due("sheet(1, 8, 41)", x.sheet(1, 8, 41), Check.BEYOND);
        C.due("sheet(1, 0, 41)", x.sheet(1, 0, 41), Check.BEYOND);
        C.due("sheet 1 is there still", x.load(1), 1);
    }

    /** What a number of a sheet is, by what comes out below when it is set there: 0 to 9999 or any. */
    private static boolean tells(TubSteps x, int s, int v) {
        x.scent(9, 0, v);
        return x.fits(s, 0) == 15;
    }

    private static void promise37Write() {
        TubSteps x = Check.spa("sad");
        x.sheet(0, 8, 1);
        x.sheet(1, 16, 1);
        x.sheet(2, 32, 1);
        for (int s = 0; s < 3; s++) {
            C.due("write(" + s + ", 0, 0x1007f)", x.write(s, 0, 0x1007f), 1);
        }
        C.holds("8 bits keep 127", tells(x, 0, 127));
        C.holds("16 bits keep 127", tells(x, 1, 127));
        C.holds("32 bits keep all", !tells(x, 2, 127));
        for (int s = 0; s < 3; s++) {
            C.due("write(" + s + ", 0, 0x00ff)", x.write(s, 0, 0xff), 1);
        }
        C.holds("255 in 8 bits are -1: any", tells(x, 0, 5));
        C.holds("255 in 16 bits", tells(x, 1, 255) && !tells(x, 1, 5));
        C.holds("255 in 32 bits", tells(x, 2, 255) && !tells(x, 2, 5));
        for (int s = 0; s < 3; s++) {
            C.due("write(" + s + ", 0, 0xffff)", x.write(s, 0, 0xffff), 1);
        }
        C.holds("65535 in 16 bits are -1: any", tells(x, 1, 5));
        C.holds("65535 in 32 bits are not", !tells(x, 2, 5));
        C.due("write(0, 1, 0)", x.write(0, 1, 0), Check.BEYOND);
        C.due("write(0, -1, 0)", x.write(0, -1, 0), Check.BEYOND);
        C.due("write(3, 9, 0)", x.write(3, 9, 0), Check.MISSING);
        C.due("write(4, 9, 0)", x.write(4, 9, 0), Check.BEYOND);
        C.due("write(-1, 0, 0)", x.write(-1, 0, 0), Check.BEYOND);
    }

    private static void warmths(TubSteps x, int s, int... due) {
        C.due("load(" + s + ")", x.load(s), due.length);
        for (int i = 0; i < due.length; i++) {
            C.due("number " + i + " of sheet " + s, x.tub(i, 4), due[i]);
        }
    }

    private static void promise38Copy() {
        TubSteps x = new TubSteps();
        Check.fill(x, 0, 8, 1, 2, 3, 4, 5);
        Check.fill(x, 1, 8, 11, 12, 13, 14, 15);
        C.due("copy(0, 1, 1, 2, 3)", x.copy(0, 1, 1, 2, 3), 3);
        warmths(x, 1, 11, 12, 2, 3, 4);
        warmths(x, 0, 1, 2, 3, 4, 5);
        C.due("copy(0, 0, 0, 1, 4): on the same sheet, downwards", x.copy(0, 0, 0, 1, 4), 4);
        warmths(x, 0, 1, 1, 2, 3, 4);
        C.due("copy(1, 2, 1, 0, 3): upwards", x.copy(1, 2, 1, 0, 3), 3);
        warmths(x, 1, 2, 3, 4, 3, 4);
        C.due("copy of none", x.copy(0, 0, 1, 0, 0), 0);
        C.due("copy of none at the ends", x.copy(0, 5, 1, 5, 0), 0);
        C.due("copy of all", x.copy(0, 0, 1, 0, 5), 5);
        warmths(x, 1, 1, 1, 2, 3, 4);
    }

    private static void promise38CopyBounds() {
        TubSteps x = new TubSteps();
        Check.fill(x, 0, 8, 1, 2, 3);
        Check.fill(x, 1, 8, 11, 12);
        Check.fill(x, 2, 16, 21, 22, 23);
        C.due("no source", x.copy(4, 0, 0, 0, 0), Check.BEYOND);
        C.due("no source", x.copy(-1, 0, 3, 0, 0), Check.BEYOND);
        C.due("no target", x.copy(0, 0, 4, 0, 0), Check.BEYOND);
        C.due("no target, a missing source", x.copy(3, 0, -1, 0, 0), Check.BEYOND);
        C.due("a missing source", x.copy(3, 0, 0, 0, -1), Check.MISSING);
        C.due("a missing target", x.copy(0, 0, 3, 0, -1), Check.MISSING);
        C.due("other bits", x.copy(0, 0, 2, 0, -1), Check.KIND);
        C.due("other bits", x.copy(2, 0, 0, 0, 1), Check.KIND);
        C.due("n below 0", x.copy(0, 0, 1, 0, -1), Check.BEYOND);
        C.due("from below 0", x.copy(0, -1, 1, 0, 1), Check.BEYOND);
        C.due("to below 0", x.copy(0, 0, 1, -1, 1), Check.BEYOND);
        C.due("the source has not so many", x.copy(0, 2, 1, 0, 2), Check.BEYOND);
        C.due("the target has not so many", x.copy(0, 0, 1, 0, 3), Check.BEYOND);
        C.due("the target has not so many", x.copy(0, 0, 1, 1, 2), Check.BEYOND);
        C.due("from behind the end", x.copy(0, 4, 1, 0, 0), Check.BEYOND);
        C.due("to behind the end", x.copy(0, 0, 1, 3, 0), Check.BEYOND);
        C.due("sums that would wrap around", x.copy(0, Integer.MAX_VALUE, 1, 0, 1), Check.BEYOND);
        C.due("sums that would wrap around", x.copy(0, 0, 1, Integer.MAX_VALUE, 2), Check.BEYOND);
        C.due("sums that would wrap around", x.copy(0, 1, 1, 1, Integer.MAX_VALUE), Check.BEYOND);
        C.due("sums that would wrap around", x.copy(0, 1, 1, 1, Integer.MIN_VALUE), Check.BEYOND);
        warmths(x, 0, 1, 2, 3);
        warmths(x, 1, 11, 12);
    }

    private static void promise39Load() {
        TubSteps x = new TubSteps();
        Check.fill(x, 0, 16, 99, 0, 50, 100, 7);
        x.warm(1, 5);
        x.warm(3, 33);
        x.warm(4, 44);
        C.due("load(0) ends at 100", x.load(0), 3);
        C.due("tub(0, 4)", x.tub(0, 4), 99);
        C.due("tub(1, 4)", x.tub(1, 4), 0);
        C.due("tub(2, 4)", x.tub(2, 4), 50);
        C.due("tub(3, 4)", x.tub(3, 4), 33);
        C.due("tub(4, 4)", x.tub(4, 4), 44);
        x.write(0, 0, -1);
        C.due("load(0) ends at -1", x.load(0), 0);
        C.due("tub(0, 4)", x.tub(0, 4), 99);
        x.sheet(1, 32, 40);
        C.due("there are ten tubs", x.load(1), 10);
        C.due("now(1)", x.now(1), 0);
        C.due("load(4)", x.load(4), Check.BEYOND);
        C.due("load(-1)", x.load(-1), Check.BEYOND);
        C.due("load(2)", x.load(2), Check.MISSING);
    }

    private static void promise40Judge() {
        TubSteps x = Check.spa("sad knows 3; spy; clerk knows 15");
        Check.fill(x, 0, 8, 3, 0, 15);
        C.due("judge(0)", x.judge(0), 0);
        Check.fill(x, 0, 8, 3, 0);
        C.due("judge(0): two of three", x.judge(0), 0);
        Check.fill(x, 0, 8);
        C.due("judge(0): none", x.judge(0), 0);
        Check.fill(x, 0, 32, 2, 1, 15);
        C.due("judge(0): the first", x.judge(0), 1);
        Check.fill(x, 0, 32, 3, 0, 14);
        C.due("judge(0): the third", x.judge(0), 3);
        Check.fill(x, 0, 32, 3, 0, 15, 0);
        C.due("judge(0): there is no fourth", x.judge(0), 4);
        Check.fill(x, 0, 32, -1, 0, 15);
        C.due("judge(0): -1 is no set", x.judge(0), 1);
        C.due("judge(4)", x.judge(4), Check.BEYOND);
        C.due("judge(-1)", x.judge(-1), Check.BEYOND);
        C.due("judge(1)", x.judge(1), Check.MISSING);
    }
}

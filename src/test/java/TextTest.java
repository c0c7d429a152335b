/** Promises 31 to 33: the tape and its texts. */
final class TextTest {
    private static final Check C = new Check();

    public static void main(String[] args) {
        promise31Feed();
        promise32Wipe();
        promise33Bathers();
        promise33Tubs();
        promise33Faults();
        promise33NumbersAndBlanks();
        promise33NinthBather();
        promise33NothingChanges();
        C.end();
    }

    private static void promise31Feed() {
        TubSteps x = new TubSteps();
        C.due("feed of 4", x.feed(0x73616420, 4), 4);
        C.due("feed of 2 of 4", x.feed(0x7878696e, 2), 6);
        C.due("feed of 1 of 4", x.feed(0x78787837, 1), 7);
        C.due("text()", x.text(), 1);
        C.due("the highest byte came first", x.of(0, 0), 5);
        C.due("in 7", x.of(0, 1), 7);
        C.due("feed(0, 0)", x.feed(0, 0), Check.BEYOND);
        C.due("feed(0, 5)", x.feed(0, 5), Check.BEYOND);
        C.due("feed(0, -1)", x.feed(0, -1), Check.BEYOND);
        for (int i = 1; i <= 39; i++) {
            C.due("feed of 3", x.feed(0x202020, 3), 3 * i);
        }
        C.due("117 and 4", x.feed(0x20202020, 4), Check.FULL);
        C.due("count(5)", x.count(5), 117);
        C.due("117 and 3", x.feed(0x202020, 3), 120);
        C.due("120 and 1", x.feed(32, 1), Check.FULL);
        C.due("n is looked at first", x.feed(32, 0), Check.BEYOND);
        C.due("text(): blanks alone end too early", x.text(), -121);
        C.due("the tape is empty then", x.count(5), 0);
    }

    private static void promise32Wipe() {
        TubSteps x = new TubSteps();
        Check.feed(x, "sad");
        C.due("wipe()", x.wipe(), 3);
        C.due("wipe() again", x.wipe(), 0);
        C.due("text() of nothing", x.text(), -1);
        C.due("count(1)", x.count(1), 0);
    }

    private static void promise33Bathers() {
        String[] words = {"bather", "duchess", "clerk", "spy", "lamplighter", "sad", "consul"};
        for (int kind = 0; kind < 7; kind++) {
            TubSteps x = new TubSteps();
            String word = words[kind];
            C.due(word, Check.read(x, word), 1);
            C.due(word + " in 9", Check.read(x, word + " in 9"), 1);
            C.due(word + " with 3 knows 15", Check.read(x, word + " with 3 knows 15"), 1);
            C.due(word + " in 2 with 1 knows 0", Check.read(x, word + " in 2 with 1 knows 6"), 1);
            int[][] due = {{kind, 0, 0, 0}, {kind, 9, 0, 0}, {kind, 0, 3, 15}, {kind, 2, 1, 6}};
            for (int b = 0; b < 4; b++) {
                for (int what = 0; what < 4; what++) {
                    C.due(word + ": of(" + b + ", " + what + ")", x.of(b, what), due[b][what]);
                }
            }
            C.due(word + ": count(5)", x.count(5), 0);
        }
    }

    private static void promise33Tubs() {
        TubSteps x = new TubSteps();
        C.due("a tub, twice", Check.read(x, "tub 3 44 of 2 555; tub 3 45 of 1 9999; fresh 12; tub 9 99; tub 0 0 of 0 0"), 5);
        C.due("tub(3, 4)", x.tub(3, 4), 45);
        C.due("tub(3, 2)", x.tub(3, 2), 555);
        C.due("tub(3, 1)", x.tub(3, 1), 9999);
        C.due("tub(9, 4)", x.tub(9, 4), 99);
        C.due("fresh(0)", x.fresh(0), 12);
        C.due("item by item: a plug between", Check.read(x, "tub 5 1 of 0 7; plug 5; tub 5 2 of 1 8; plug 3"), 4);
        C.due("tub(5, 4)", x.tub(5, 4), 2);
        C.due("tub(5, 0)", x.tub(5, 0), 0);
        C.due("tub(5, 1)", x.tub(5, 1), 8);
        C.due("tub(3, 6)", x.tub(3, 6), 0);
        C.due("tub(3, 4)", x.tub(3, 4), 0);
        C.due("now(0)", x.now(0), 0);
        x.fresh(50);
        C.due("fresh 0", Check.read(x, "tub 0 5 of 0 5; fresh 0; plug 0; sad in 0 with 0 knows 0"), 4);
        C.due("fresh(1)", x.fresh(1), 0);
        C.due("tub(0, 4)", x.tub(0, 4), 0);
        C.due("tub(0, 6)", x.tub(0, 6), 0);
        C.due("of(0, 0)", x.of(0, 0), 5);
    }

    /** Reads a text whose fault is marked by a | ahead of it. */
    private static void fault(String marked) {
        TubSteps x = new TubSteps();
        int place = marked.indexOf('|');
        String text = marked.substring(0, place) + marked.substring(place + 1);
        C.due(marked, Check.read(x, text), -1 - place);
        C.due(marked + ": no finding", x.status(-1), 0);
        C.due(marked + ": the tape is empty", x.count(5), 0);
        C.due(marked + ": nothing has changed", x.count(1) + x.count(3) + x.count(4), 0);
    }

    private static void promise33Faults() {
        String[] marked = {
            "|", "  |", "|;", "|;sad", "sad;|", "sad; |", "sad;|;sad", "|sads", "|x", "|5", "|in 5", "|Sad", " |\t sad", "|\u00e9",
            "sad|, sad", "sad |sad", "sad |5", "sad in |", "sad in |10", "sad in |with 1", "sad in|;", "sad in 1 |in 1",
            "sad with |4", "sad with |", "sad with 1 |in 1", "sad knows |16", "sad knows |", "sad knows 1 |with 1",
            "sad knows 1 |knows 1", "sad in 1 |2", "tub |", "tub |10 0", "tub 0 |", "tub 0 |100", "tub 0 |;",
            "tub 0 0 |0", "tub 0 0 of |", "tub 0 0 of |4 0", "tub 0 0 of 0 |", "tub 0 0 of 0 |10000", "tub 0 0 of 0 0 |of 0 0",
            "tub |x", "fresh |", "fresh |100", "fresh 9 |9", "fresh |;", "plug |", "plug |10", "plug 9 |x", "plug |sad",
            "tub 0 0 |in 5", "fresh 1;plug 1;|fres 1", "sad;sad|-", "sad in |99999999999999999999", "sad |i",
            "sad in|\n1", "sad |inn 1", "sad |IN 1", "sad|.", "|lamplighters", "|bathe", "|duches", "|clerks", "|spi",
            "tub 0 0|off 1 1", "|bad", "|dub 0 0", "|sadz", "|asad", "|zsad", "sad |on 1"};
        for (String each : marked) {
            fault(each);
        }
    }

    private static void promise33NumbersAndBlanks() {
        TubSteps x = new TubSteps();
        C.due("no blanks but where words would grow together", Check.read(x, "sad in1with2knows3;tub1 2of3 4"), 2);
        C.due("of(0, 1)", x.of(0, 1), 1);
        C.due("of(0, 2)", x.of(0, 2), 2);
        C.due("of(0, 3)", x.of(0, 3), 3);
        C.due("tub(1, 3)", x.tub(1, 3), 4);
        C.due("many blanks", Check.read(x, "   spy   in   8   ;   plug   0   "), 2);
        C.due("of(1, 1)", x.of(1, 1), 8);
        C.due("noughts ahead of a number", Check.read(x, "clerk in 0000000000000007 with 02"), 1);
        C.due("of(2, 1)", x.of(2, 1), 7);
        C.due("of(2, 2)", x.of(2, 2), 2);
        C.due("a number that wraps around an int", Check.read(x, "sad in 4294967296"), -8);
        C.due("a number that wraps around a long", Check.read(x, "sad in 18446744073709551617"), -8);
        C.due("words grow together", Check.read(x, "sadin 1"), -1);
        StringBuilder full = new StringBuilder("fresh 1");
        while (full.length() < 119) {
            full.append(' ');
        }
        C.due("120 bytes", Check.read(x, full + ";"), -121);
        C.due("119 bytes", Check.read(x, full.toString()), 1);
        C.due("fresh(0)", x.fresh(0), 1);
    }

    private static void promise33NinthBather() {
        TubSteps x = Check.spa("sad;sad;sad;sad;sad;sad");
        C.due("a ninth, by its own word", Check.read(x, "spy;spy in 3; spy in 77"), -15);
        C.due("count(1) as it was", x.count(1), 6);
        C.due("a seventh and an eighth", Check.read(x, "spy;spy in 3; fresh 3"), 3);
        C.due("count(1)", x.count(1), 8);
        C.due("a ninth", Check.read(x, "fresh 4;spy"), -9);
        C.due("a text without bathers", Check.read(x, "fresh 4"), 1);
    }

    private static void promise33NothingChanges() {
        TubSteps x = Check.spa("sad in 3 with 1; tub 3 33 of 3 333; fresh 33");
        C.due("a fault at the end", Check.read(x, "sad; tub 3 1 of 3 1; fresh 1; plug 3; plug"), -43);
        C.due("count(1)", x.count(1), 1);
        C.due("tub(3, 4)", x.tub(3, 4), 33);
        C.due("tub(3, 3)", x.tub(3, 3), 333);
        C.due("fresh(33)", x.fresh(33), 33);
        C.due("count(5)", x.count(5), 0);
        C.due("status(-1)", x.status(-1), 0);
    }
}

/** Promises 31 to 33, sentence by sentence: the edges of the tape, of tokens, of numbers and of faults. */
final class EdgesTextTest {
    private static final Check C = new Check();
    private static final Edges NEW = new Edges(C, TubSteps::new);
    private static final Edges BUSY = new Edges(C, Edges::busy);
    private static final Edges FULL = new Edges(C, Edges::full);

    public static void main(String[] args) {
        promise31HowMany();
        promise31HighestFirst();
        promise31Full();
        promise32Wipe();
        promise33Empty();
        promise33Items();
        promise33NumbersOfBathers();
        promise33NumbersOfTubs();
        promise33Numbers();
        promise33Tokens();
        promise33Blanks();
        promise33Without();
        promise33Words();
        promise33NoToken();
        promise33EndsTooEarly();
        promise33NinthBather();
        promise33FullTape();
        promise33FaultChangesNothing();
        C.end();
    }

    private static void promise31HowMany() {
        C.sentence("THE TAPE gets the n lowest bytes of a number behind it (n 1 to 4): how many it has. BEYOND: n.");
        BUSY.argument(1, 1, 4, "feed", 0x20202020, 2);
        for (int n = 1; n <= 4; n++) {
            NEW.taken(n, "feed", -1, n);
            BUSY.taken(8 + n, "feed", 0, n);
        }
    }

    private static void promise31HighestFirst() {
        C.sentence("the highest of these first");
        TubSteps x = new TubSteps();
        x.feed(0x73616420, 4);
        x.feed(0xff696e20, 3);
        x.feed(0xffff3920, 2);
        x.feed(0xffffff20, 1);
        C.due("count(5)", x.count(5), 10);
        C.due("text()", x.text(), 1);
        C.due("a SAD", x.of(0, 0), 5);
        C.due("in 9", x.of(0, 1), 9);
        TubSteps back = new TubSteps();
        back.feed(0x20646173, 4);
        C.due("bytes the other way around", back.text(), -2);
    }

    private static TubSteps taped(int bytes) {
        TubSteps x = Edges.busy();
        x.wipe();
        StringBuilder text = new StringBuilder("sad in 9 with 3");
        while (text.length() < bytes) {
            text.append(' ');
        }
        Check.feed(x, text.toString());
        return x;
    }

    private static void promise31Full() {
        C.sentence("THE TAPE (bytes, at most 120) .. FULL.");
        for (int n = 1; n <= 4; n++) {
            int most = 120 - n;
            new Edges(C, () -> taped(most)).taken(120, "feed", 0x20202020, n);
            new Edges(C, () -> taped(most + 1)).refused(Check.FULL, "feed", 0x20202020, n);
            FULL.refused(Check.FULL, "feed", 0x20202020, n);
        }
        FULL.refused(Check.BEYOND, "feed", 0, 0);
        FULL.refused(Check.BEYOND, "feed", 0, 5);
        FULL.refused(Check.BEYOND, "feed", 0, -1);
    }

    private static void promise32Wipe() {
        C.sentence("THE TAPE is empty: how many it had.");
        NEW.taken(0, "wipe");
        BUSY.taken(8, "wipe");
        FULL.taken(120, "wipe");
        TubSteps x = Edges.full();
        x.wipe();
        C.due("count(5)", x.count(5), 0);
        C.due("wipe() again", x.wipe(), 0);
        C.due("feed behind it", x.feed(32, 1), 1);
        C.due("nothing of what was is read", x.text(), -2);
    }

    private static void promise33Empty() {
        C.sentence("THE TAPE is a TEXT, and empty then; .. how many ITEMS");
        NEW.taken(-1, "text");
        BUSY.taken(1, "text");
        FULL.taken(1, "text");
        TubSteps x = Edges.busy();
        x.text();
        C.due("the tape is empty then", x.count(5), 0);
        C.due("a SPY", x.of(3, 0), 3);
        C.due("text() again", x.text(), -1);
        C.due("no finding", x.status(-1), 0);
    }

    private static void promise33Items() {
        C.sentence("TEXT: ITEM { ; ITEM }");
        taken("plug 0", 1);
        taken("plug 0;plug 0", 2);
        StringBuilder many = new StringBuilder("plug 0");
        for (int i = 2; i <= 17; i++) {
            many.append(";plug 0");
            taken(many.toString(), i);
        }
        fault("|;plug 0");
        fault("plug 0;|;plug 0");
        fault("plug 0;|");
        fault("plug 0 |plug 0");
        C.sentence("all that it tells is so, item by item");
        TubSteps x = new TubSteps();
        Check.read(x, "fresh 1;fresh 2;tub 5 9 of 1 9;plug 5;tub 5 8 of 2 8;tub 5 7");
        C.due("the last FRESH", x.fresh(0), 2);
        C.due("what came ahead of the PLUG is gone", x.tub(5, 1), 0);
        C.due("what came behind it is there", x.tub(5, 2), 8);
        C.due("the last WARMTH", x.tub(5, 4), 7);
    }

    /** A number is taken up to its most, and refused from there on at its own place. */
    private static void number(String ahead, int most, String behind) {
        taken(ahead + "0" + behind, 1);
        taken(ahead + most + behind, 1);
        taken(ahead + "000" + most + behind, 1);
        fault(ahead + "|" + (most + 1) + behind);
        fault(ahead + "|9999999999" + behind);
        fault(ahead + "|-1" + behind);
        fault(ahead + "|x" + behind);
        fault(ahead + "|");
    }

    private static void promise33NumbersOfBathers() {
        C.sentence("perhaps in and a NUMBER (a TUB), perhaps with and a NUMBER (its SCENT), perhaps knows and a NUMBER (a set, 0 to 15)");
        for (String word : new String[] {"bather", "duchess", "clerk", "spy", "lamplighter", "sad", "consul"}) {
            number(word + " in ", 9, "");
            number(word + " in ", 9, " with 1 knows 1");
            number(word + " with ", 3, " knows 1");
            number(word + " in 9 with ", 3, "");
            number(word + " knows ", 15, "");
            number(word + " in 9 with 3 knows ", 15, "");
        }
        TubSteps x = Check.spa("consul in 9 with 3 knows 15");
        int[] due = {6, 9, 3, 15};
        for (int what = 0; what < 4; what++) {
            C.due("of(0, " + what + ")", x.of(0, what), due[what]);
        }
    }

    private static void promise33NumbersOfTubs() {
        C.sentence("tub, two NUMBERS (a TUB, WARMTH), perhaps of and two NUMBERS (a SCENT, how much); fresh, a NUMBER (0 to 99); plug, a NUMBER");
        number("tub ", 9, " 50");
        number("tub 9 ", 99, "");
        number("tub 9 ", 99, " of 1 1");
        number("tub 9 99 of ", 3, " 7");
        number("tub 9 99 of 3 ", 9999, "");
        number("fresh ", 99, "");
        number("plug ", 9, "");
        TubSteps x = Check.spa("tub 9 99 of 3 9999; fresh 99");
        C.due("tub(9, 4)", x.tub(9, 4), 99);
        C.due("tub(9, 3)", x.tub(9, 3), 9999);
        C.due("tub(9, 6)", x.tub(9, 6), 9999);
        C.due("fresh(50)", x.fresh(50), 99);
        x.warm(0, 50);
        x.scent(0, 0, 50);
        C.due("the least of each", Check.read(x, "tub 0 0 of 0 0; fresh 0"), 2);
        C.due("tub(0, 4)", x.tub(0, 4), 0);
        C.due("tub(0, 6)", x.tub(0, 6), 0);
        C.due("fresh(50)", x.fresh(50), 0);
        x.warm(0, 50);
        C.due("plug 0; plug 9", Check.read(x, "plug 0; plug 9"), 2);
        C.due("tub(0, 4)", x.tub(0, 4), 0);
        C.due("tub(9, 4)", x.tub(9, 4), 0);
        C.due("tub(9, 6)", x.tub(9, 6), 0);
    }

    private static void promise33Numbers() {
        C.sentence("NUMBERS (digits, 9999 at most)");
        String most = "tub 0 0 of 0 ";
        TubSteps x = new TubSteps();
        for (String digits : new String[] {"9999", "09999", "00000000000000000000009999"}) {
            Check.read(x, "plug 0");
            C.due(most + digits, Check.read(x, most + digits), 1);
            C.due("tub(0, 0)", x.tub(0, 0), 9999);
        }
        for (String digits : new String[] {"10000", "99990", "4294967296", "4294967297", "2147483648", "18446744073709551616", "18446744073709551617"}) {
            fault(most + "|" + digits);
        }
    }

    private static void promise33Tokens() {
        C.sentence("TOKENS, each as long as can be");
        taken("sad in1with2knows3", 1);
        taken("tub0 0of0 0;plug0;fresh0", 3);
        fault("|sadin 1");
        fault("|inn 1");
        fault("sad |inn 1");
        fault("tub |12 0");
        fault("tub 1|");
        fault("tub 1 2 |3");
        fault("sad in 1 |1");
        fault("sad in |11");
    }

    private static void promise33Blanks() {
        C.sentence("blanks may stand between");
        taken(" sad", 1);
        taken("sad ", 1);
        taken("   sad   in   9   ;   sad   ", 2);
        taken("sad;sad", 2);
        fault("|s ad");
        fault("sad in 1 |0");
        fault("sad|\tin 1");
        fault("sad|\n");
        fault("|\u00a0sad");
        fault("|\0sad");
    }

    private static void promise33Without() {
        C.sentence("(a TUB; 0 without) .. (its SCENT; 0 without) .. perhaps knows");
        String[] parts = {"", " in 7", " with 3", " knows 9"};
        for (int set = 0; set < 8; set++) {
            String text = "spy";
            for (int i = 0; i < 3; i++) {
                text += (set >> i & 1) != 0 ? parts[i + 1] : "";
            }
            TubSteps x = Check.spa(text);
            C.due(text + ": TUB", x.of(0, 1), (set & 1) != 0 ? 7 : 0);
            C.due(text + ": SCENT", x.of(0, 2), (set & 2) != 0 ? 3 : 0);
            C.due(text + ": KNOWS", x.of(0, 3), (set & 4) != 0 ? 9 : 0);
        }
        fault("spy with 1 |in 1");
        fault("spy knows 1 |in 1");
        fault("spy knows 1 |with 1");
        fault("spy in 1 |in 1");
        fault("spy with 1 |with 1");
        fault("spy knows 1 |knows 1");
        fault("spy |of 1 1");
        fault("tub 0 0 of 0 0 |of 1 1");
        fault("tub 0 0 |with 1");
        fault("fresh 1 |in 1");
        fault("plug 1 |of 1 1");
    }

    private static void promise33Words() {
        C.sentence("FAULT: .. another WORD");
        String[] words = {"bather", "duchess", "clerk", "spy", "lamplighter", "sad", "consul", "tub", "fresh", "plug"};
        for (String word : words) {
            fault("|" + word + "s");
            fault("|" + word + "z");
            fault("|q" + word.substring(1) + " 1 1");
            fault("|" + word.substring(0, word.length() - 1) + "q 1 1");
            fault("|" + word + "a 1 1");
            fault("|" + word.substring(0, word.length() - 1));
            fault("|" + word.substring(1));
            fault("|" + word.toUpperCase());
            fault("plug 1;|x" + word);
        }
        for (String word : new String[] {"in", "with", "knows", "of", "a", "z", "governor"}) {
            fault("|" + word);
            fault("|" + word + " 1");
        }
        fault("|1");
        fault("|12 sad");
    }

    private static void promise33NoToken() {
        C.sentence("FAULT: .. a byte that begins no TOKEN");
        for (int each = 0; each < 256; each++) {
            boolean token = each >= 'a' && each <= 'z' || each >= '0' && each <= '9' || each == ';' || each == ' ';
            if (!token) {
                fault("|" + (char) each);
                fault("sad|" + (char) each);
                fault("sad in |" + (char) each + "1");
                fault("sad in 1|" + (char) each);
                fault("sad;  |" + (char) each + "sad");
            }
        }
        fault("|`");
        fault("|{");
        fault("sad in |/");
        fault("sad in |:");
        fault("sad in 1|:");
    }

    private static void promise33EndsTooEarly() {
        C.sentence("or how many bytes there are if it ends too early");
        String[] early = {"", "sad;", "sad in", "sad with", "sad in 1 with", "sad knows", "tub", "tub 1", "tub 1 1 of", "tub 1 1 of 1", "fresh", "plug"};
        for (String each : early) {
            fault(each + "|");
            fault(each + " |");
            fault(each + "   |");
            fault("   " + each + "|");
        }
    }

    private static void promise33NinthBather() {
        C.sentence("FAULT: .. the WORD of a 9th BATHER: its own");
        TubSteps x = new TubSteps();
        C.due("eight in one TEXT", Check.read(x, "sad;sad;sad;sad;sad;sad;sad;sad"), 8);
        C.due("count(1)", x.count(1), 8);
        fault("sad;sad;sad;sad;sad;sad;sad;sad;|sad");
        fault("sad;sad;sad;sad;sad;sad;sad;sad;|spy in 99");
        fault("sad;sad;sad;sad;sad;sad;sad;sad in |99;sad");
        for (int have = 0; have <= 8; have++) {
            TubSteps some = new TubSteps();
            for (int i = 0; i < have; i++) {
                some.bather(0, 0);
            }
            StringBuilder text = new StringBuilder();
            for (int i = have; i < 8; i++) {
                text.append("spy;");
            }
            C.due(have + ", and one too many", Check.read(some, text + "spy"), -1 - text.length());
            C.due("count(1) as it was", some.count(1), have);
            C.due("without it", Check.read(some, text + "plug 0"), 9 - have);
            C.due("count(1)", some.count(1), 8);
        }
    }

    private static void promise33FullTape() {
        C.sentence("THE TAPE (bytes, at most 120)");
        StringBuilder blanks = new StringBuilder();
        for (int i = 0; i < 113; i++) {
            blanks.append(' ');
        }
        taken(blanks + "fresh 5", 1);
        taken("fresh 5" + blanks, 1);
        fault(blanks + "fresh  |");
        fault(blanks + "      |x");
        fault(blanks + "       |");
        fault(blanks + "fresh |;");
    }

    private static void promise33FaultChangesNothing() {
        C.sentence("With a FAULT: -1 less the FAULT (nothing changes but that THE TAPE is empty; no finding)");
        String[] faults = {
            "sad in 5;|", "plug 0;plug 3;plug 9;|", "tub 3 1 of 3 1;tub 3 2 of 3 |10000", "fresh 1;fresh|", "spy knows 15;spy |spy",
            "sad;sad;sad;sad;sad;|sad", "|", "tub 0 1 of |9", "tub 0 1 |7", "fresh 3 |3", "plug 0 |0"};
        for (String marked : faults) {
            String text = marked.replace("|", "");
            TubSteps x = Edges.busy();
            TubSteps twin = Edges.busy();
            C.due(marked, Check.read(x, text), -1 - marked.indexOf('|'));
            twin.wipe();
            C.due(marked + ": count(5)", x.count(5), 0);
            for (int which = -1; which < 7; which++) {
                C.due(marked + ": status(" + which + ")", x.status(which), 0);
            }
            Seen.alike(C, marked, Seen.all(x), Seen.all(twin));
        }
    }

    private static void taken(String text, int items) {
        TubSteps x = new TubSteps();
        C.due(text, Check.read(x, text), items);
        C.due(text + ": the tape is empty", x.count(5), 0);
        C.due(text + ": no finding", x.status(-1), 0);
    }

    /** Reads a text whose fault is marked by a | ahead of it. */
    private static void fault(String marked) {
        int place = marked.indexOf('|');
        String text = marked.substring(0, place) + marked.substring(place + 1);
        TubSteps x = new TubSteps();
        C.due(marked, Check.read(x, text), -1 - place);
        C.due(marked + ": the tape is empty", x.count(5), 0);
        C.due(marked + ": no finding", x.status(-1), 0);
        C.due(marked + ": nothing has changed", x.count(1) + x.count(3) + x.count(4), 0);
        C.due(marked + ": FRESH neither", x.fresh(0), 90);
    }
}

import java.util.function.Supplier;

/** Asks calls at the edges of what they take, each on an object that is made anew in one state. */
final class Edges {
    private final Check check;
    private final Supplier<TubSteps> state;

    Edges(Check check, Supplier<TubSteps> state) {
        this.check = check;
        this.state = state;
    }

    /**
     * Three bathers, an hour, spots, sheets of each size (the fourth is missing), a tape with a text, and an
     * image that is not as all is now: so that whatever a call would change can be seen.
     */
    static TubSteps busy() {
        TubSteps x = new TubSteps();
        x.go(2);
        Check.read(x, "sad in 3 with 1 knows 4; duchess in 4 with 2; clerk in 5; tub 3 33 of 3 333; tub 9 12 of 0 50; fresh 77");
        x.seed(9);
        x.hold(5, 0);
        x.hold(6, 2);
        Check.fill(x, 0, 8, 1, 2, 3, 4, 5, 6, 7, 8, 9, 10, 11, 12);
        Check.fill(x, 1, 16, 4, 0, 0);
        Check.fill(x, 2, 32);
        x.image();
        x.warm(2, 21);
        x.change(1, 3, 8);
        Check.feed(x, "spy in 6");
        return x;
    }

    /** Eight bathers and a tape of 120 bytes. */
    static TubSteps full() {
        TubSteps x = Check.spa("sad;sad in 1;spy in 2;spy in 3;clerk in 4;consul in 5;duchess in 6;lamplighter in 7 with 3 knows 6");
        StringBuilder text = new StringBuilder("fresh 12");
        while (text.length() < 120) {
            text.append(' ');
        }
        Check.feed(x, text.toString());
        x.hold(9, 7);
        x.sheet(0, 32, 40);
        return x;
    }

    void taken(long want, String name, int... values) {
        check.due(Calls.told(name, values), Calls.ask(state.get(), name, values), want);
    }

    /** The call answers a finding, which is counted, and nothing has changed behind it but that. */
    void refused(long finding, String name, int... values) {
        TubSteps x = state.get();
        TubSteps twin = state.get();
        String call = Calls.told(name, values);
        check.due(call, Calls.ask(x, name, values), finding);
        for (int which = -1; which < 7; which++) {
            int more = which == -1 || which == Check.BEYOND - finding ? 1 : 0;
            check.due(call + ", then status(" + which + ")", x.status(which), twin.status(which) + more);
        }
        Seen.alike(check, call, Seen.all(x), Seen.all(twin));
    }

    /** The call answers as due and changes nothing, nor is a finding counted. */
    void onlyAsked(long want, String name, int... values) {
        TubSteps x = state.get();
        TubSteps twin = state.get();
        String call = Calls.told(name, values);
        check.due(call, Calls.ask(x, name, values), want);
        check.due(call + ", then status(-1)", x.status(-1), twin.status(-1));
        Seen.alike(check, call, Seen.all(x), Seen.all(twin));
    }

    /** Of one argument the least and the most are taken, and what is beyond them is refused; the others are as given. */
    void argument(int place, int least, int most, String name, int... values) {
        for (int v : new int[] {least, most}) {
            int[] asked = values.clone();
            asked[place] = v;
            check.holds(Calls.told(name, asked) + " is taken", Calls.ask(state.get(), name, asked) != Check.BEYOND);
        }
        for (int v : new int[] {least - 1, most + 1, Integer.MIN_VALUE, Integer.MAX_VALUE}) {
            int[] asked = values.clone();
            asked[place] = v;
            refused(Check.BEYOND, name, asked);
        }
    }
}

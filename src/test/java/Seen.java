import java.util.ArrayList;
import java.util.List;

/**
 * All that can be seen of an object by its own calls, in a row of answers. The object is used up by it:
 * what is on sheets, on the tape and in the image can only be seen by acts.
 */
final class Seen {
    private final TubSteps x;
    private final List<String> calls = new ArrayList<>();
    private final List<Long> answers = new ArrayList<>();

    private Seen(TubSteps x) {
        this.x = x;
    }

    static Seen all(TubSteps x) {
        Seen seen = new Seen(x);
        seen.spa();
        seen.whatWillBe();
        seen.sheets();
        seen.tape();
        seen.ask("undo");
        seen.spa();
        seen.whatWillBe();
        seen.ask("tear");
        return seen;
    }

    /** Tells each answer in which two objects differ. */
    static void alike(Check check, String behind, Seen one, Seen other) {
        check.due(behind + ": how many answers", one.answers.size(), other.answers.size());
        for (int i = 0; i < Math.min(one.answers.size(), other.answers.size()); i++) {
            check.due(behind + ", then " + one.calls.get(i), one.answers.get(i), other.answers.get(i));
        }
    }

    private void ask(String name, int... values) {
        calls.add(Calls.told(name, values));
        answers.add(Calls.ask(x, name, values));
    }

    private void spa() {
        for (int what = 0; what < 8; what++) {
            ask("count", what);
        }
        for (int tub = 0; tub < 10; tub++) {
            for (int what = 0; what < 6; what++) {
                ask("tub", tub, what);
            }
        }
        int bathers = x.count(1);
        for (int bather = 0; bather < bathers; bather++) {
            for (int what = 0; what < 4; what++) {
                ask("of", bather, what);
            }
        }
        for (int spot = 0; spot < 10; spot++) {
            ask("as", spot, 0);
        }
        ask("fresh", 5);
    }

    private void whatWillBe() {
        for (int tub = 0; tub < 10; tub++) {
            ask("ahead", tub, tub % 5, 1);
        }
        int bathers = x.count(1);
        for (int bather = 0; bather < bathers; bather++) {
            ask("knows", bather, 9);
        }
        ask("go", 1);
        ask("count", 3);
        ask("count", 4);
    }

    private void sheets() {
        for (int s = 0; s < 4; s++) {
            ask("judge", s);
            firstTen(s);
        }
        // the bits of a sheet, and its numbers behind the tenth
        ask("copy", 0, 0, 1, 0, 0);
        ask("copy", 1, 0, 2, 0, 0);
        ask("write", 0, 12, 1);
        ask("copy", 0, 2, 0, 0, 10);
        firstTen(0);
    }

    private void firstTen(int s) {
        ask("load", s);
        for (int tub = 0; tub < 10; tub++) {
            ask("tub", tub, 4);
        }
    }

    private void tape() {
        ask("text");
        int newest = x.count(1) - 1;
        for (int what = 0; what < 4; what++) {
            ask("of", newest, what);
        }
    }
}

import java.lang.reflect.InvocationTargetException;
import java.lang.reflect.Method;
import java.util.Random;

/** Runs of calls by chance (always the same), each answered by the program and by the model. */
final class ModelTest {
    /** Each call, with how often it comes and, for each argument, the greatest that may do (b: a bather, s: a sheet). */
    private static final String[] CALLS = {
        "warm 6 9 99", "scent 12 9 3 9999", "tub 8 9 6", "fresh 2 99", "plug 3 9", "bather 12 6 9", "of 12 b 7",
        "change 8 b 3 15", "swap 3 b b", "go 8 40", "now 8 5", "ahead 4 9 4 60", "knows 4 b 60", "when 4 b 3",
        "cold 4 9 99", "left 2 9999 9", "needed 1 500 9", "swapFor 4 b 40", "seat 3 b 3", "kindFor 4 b 40",
        "freshFor 3 99 40", "hides 2 9 3 3 20", "leave 3 3 20", "plugFor 4 3 40", "fits 4 s b", "kinds 4 s b",
        "plugs 3 20", "odds 4 18 1", "seed 2 i", "feed 3 i 4", "wipe 1", "text 3", "hold 5 9 b", "as 6 9 6",
        "sheet 5 s w 40", "write 12 s 39 v", "copy 8 s 20 s 20 20", "load 2 s", "judge 3 s", "image 2", "undo 2",
        "tear 1", "count 5 7", "status 5 6"};
    private static final String[] WORDS = {
        "bather", "duchess", "clerk", "spy", "lamplighter", "sad", "consul", "in", "with", "knows", "tub", "of", "fresh",
        "plug", ";", " ", "  ", "0", "1", "3", "9", "15", "99", "400", "9999", "10000", "x", "A", ",", "\u00e9"};

    private final Random chance;
    private final TubSteps program = new TubSteps();
    private final Model model = new Model();
    private final int run;

    private ModelTest(int run) {
        this.run = run;
        chance = new Random(run);
    }

    public static void main(String[] args) throws Exception {
        Check all = new Check();
        for (int run = 1; run <= 250; run++) {
            new ModelTest(run).calls(all, 512);
        }
        all.end();
    }

    private void calls(Check all, int many) throws Exception {
        int weight = 0;
        for (String call : CALLS) weight += Integer.parseInt(call.split(" ")[1]);
        for (int i = 0; i < many; i++) {
            if (chance.nextInt(25) == 0) {
                i += feedText(all, many - i);
                continue;
            }
            int pick = chance.nextInt(weight);
            int c = 0;
            while ((pick -= Integer.parseInt(CALLS[c].split(" ")[1])) >= 0) c++;
            call(all, CALLS[c].split(" "));
        }
    }

    private void call(Check all, String[] call) throws Exception {
        Object[] values = new Object[call.length - 2];
        Class<?>[] types = new Class<?>[values.length];
        for (int i = 0; i < values.length; i++) {
            types[i] = int.class;
            values[i] = argument(call[i + 2]);
        }
        ask(all, call[0], types, values);
    }

    private void ask(Check all, String name, Class<?>[] types, Object... values) throws Exception {
        long want = answer(Model.class.getDeclaredMethod(name, types), model, values);
        long got = answer(TubSteps.class.getDeclaredMethod(name, types), program, values);
        all.due("run " + run + ": " + name + java.util.Arrays.toString(values), got, want);
    }

    private static long answer(Method method, Object on, Object[] values) throws Exception {
        try {
            return ((Number) method.invoke(on, values)).longValue();
        } catch (InvocationTargetException thrown) {
            throw new IllegalStateException(method + java.util.Arrays.toString(values), thrown.getCause());
        }
    }

    private int argument(String kind) {
        switch (kind) {
            case "i": return chance.nextInt();
            case "b": return chance.nextInt(20) == 0 ? chance.nextInt(12) - 2 : chance.nextInt(Math.max(1, model.spa.bathers.size()));
            case "s": return chance.nextInt(30) == 0 ? chance.nextInt(8) - 2 : chance.nextInt(4);
            case "w": return chance.nextInt(12) == 0 ? chance.nextInt(33) : 8 << chance.nextInt(3);
            case "v": return number();
            default:
        }
        int most = Integer.parseInt(kind);
        switch (chance.nextInt(40)) {
            case 0: return -1;
            case 1: return most + 1;
            case 2: return chance.nextInt();
            case 3: return most;
            case 4: return 0;
            default: return chance.nextInt(3) == 0 ? chance.nextInt(Math.min(most, 400) + 1) : chance.nextInt(most + 1);
        }
    }

    /** What might be told by a sheet: often what comes out below, or what somebody knows. */
    private int number() {
        switch (chance.nextInt(8)) {
            case 0: return chance.nextInt();
            case 1: return model.spa.behind(chance.nextInt(4)).much[9][0];
            case 2: return model.spa.bathers.isEmpty() ? 0 : model.spa.bathers.get(0).known();
            case 3: return chance.nextInt(100);
            case 4: return 0;
            default: return -1;
        }
    }

    /** Feeds the bytes of a text by fours and reads it: how many calls it took. */
    private int feedText(Check all, int most) throws Exception {
        StringBuilder text = new StringBuilder();
        int items = 1 + chance.nextInt(5);
        for (int i = 0; i < items; i++) {
            if (i > 0) text.append(';');
            text.append(item());
        }
        if (chance.nextInt(3) == 0) {
            int at = chance.nextInt(text.length() + 1);
            text.insert(at, WORDS[chance.nextInt(WORDS.length)]);
        }
        if (chance.nextInt(6) == 0) text.deleteCharAt(chance.nextInt(text.length()));
        text.setLength(Math.min(text.length(), 119));
        int calls = 2;
        ask(all, "wipe", new Class<?>[0]);
        for (int at = 0; at < text.length() && calls < most; calls++) {
            int n = Math.min(text.length() - at, 1 + chance.nextInt(4));
            int bytes = chance.nextInt();
            for (int i = 0; i < n; i++) bytes = bytes << 8 | text.charAt(at++);
            ask(all, "feed", new Class<?>[] {int.class, int.class}, bytes, n);
        }
        ask(all, "text", new Class<?>[0]);
        return calls;
    }

    private String item() {
        StringBuilder item = new StringBuilder();
        switch (chance.nextInt(6)) {
            case 0: return "tub " + chance.nextInt(10) + " " + chance.nextInt(100);
            case 1: return "tub " + chance.nextInt(10) + " " + chance.nextInt(100) + "of" + chance.nextInt(4) + " " + chance.nextInt(2000);
            case 2: return chance.nextBoolean() ? "fresh " + chance.nextInt(100) : " plug " + chance.nextInt(10) + " ";
            default:
        }
        item.append(WORDS[chance.nextInt(7)]);
        if (chance.nextBoolean()) item.append(" in ").append(chance.nextInt(10));
        if (chance.nextBoolean()) item.append(" with").append(chance.nextInt(4));
        if (chance.nextBoolean()) item.append(" knows 0").append(chance.nextInt(16));
        return item.toString();
    }
}

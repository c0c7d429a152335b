import java.util.ArrayList;
import java.util.List;
import java.util.regex.Matcher;
import java.util.regex.Pattern;

/** Texts told a second time: all tokens are found first, and then read as a list. */
final class ModelText {
    private static final List<String> KINDS = List.of("bather", "duchess", "clerk", "spy", "lamplighter", "sad", "consul");
    private static final Pattern TOKEN = Pattern.compile("[a-z]+|[0-9]+|;|[^ ]", Pattern.DOTALL);

    private static final class Fault extends Exception {
        private static final long serialVersionUID = 1L;
    }

    final Model.Spa spa;
    private final List<String> tokens = new ArrayList<>();
    private final List<Integer> places = new ArrayList<>();
    private int at = 0;

    ModelText(String text, Model.Spa spa) {
        this.spa = spa;
        Matcher m = TOKEN.matcher(text);
        while (m.find()) {
            tokens.add(m.group());
            places.add(m.start());
        }
        tokens.add("");
        places.add(text.length());
    }

    int answer() {
        try {
            int items = 0;
            do {
                item();
                items++;
            } while (passed(";"));
            if (!tokens.get(at).isEmpty()) throw new Fault();
            return items;
        } catch (Fault fault) {
            return -1 - places.get(at);
        }
    }

    private boolean passed(String token) {
        if (!tokens.get(at).equals(token)) return false;
        at++;
        return true;
    }

    private int number(int most) throws Fault {
        String token = tokens.get(at);
        if (token.isEmpty() || !Character.isDigit(token.charAt(0))) throw new Fault();
        if (new java.math.BigInteger(token).compareTo(java.math.BigInteger.valueOf(most)) > 0) throw new Fault();
        at++;
        return Integer.parseInt(token);
    }

    private void item() throws Fault {
        int kind = KINDS.indexOf(tokens.get(at));
        if (kind >= 0) {
            if (spa.bathers.size() == 8) throw new Fault();
            at++;
            Model.Bather b = Model.make(kind);
            if (passed("in")) b.tub = number(9);
            if (passed("with")) b.scent = number(3);
            if (passed("knows")) {
                int set = number(15);
                for (int s = 0; s < 4; s++) b.knows[s] = (set >> s) % 2 == 1;
            }
            spa.bathers.add(b);
        } else if (passed("tub")) {
            int tub = number(9);
            spa.warmth[tub] = number(99);
            if (passed("of")) {
                int scent = number(3);
                spa.much[tub][scent] = number(9999);
            }
        } else if (passed("fresh")) {
            spa.fresh = number(99);
        } else if (passed("plug")) {
            spa.pull(number(9));
        } else {
            throw new Fault();
        }
    }
}

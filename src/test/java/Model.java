import java.math.BigInteger;
import java.util.ArrayList;
import java.util.List;

/**
 * The document told a second time, in other words: kinds are classes, a spa is copied whole for
 * every question, and each answer is looked for in the slowest and plainest way.
 */
final class Model {
    static final int LOW = -1000001;
    static final int BEYOND = LOW, FULL = LOW - 1, KIND = LOW - 2, NONE = LOW - 3, STATE = LOW - 4, MISSING = LOW - 5, SIZE = LOW - 6;

    static class Bather {
        int tub, scent;
        boolean[] knows = new boolean[4];

        int adds(Spa spa) { return 64; }
        int cools() { return 5; }
        int nose() { return 100; }
        int number() { return 0; }

        Bather as(int kind) {
            Bather b = make(kind);
            b.tub = tub;
            b.scent = scent;
            b.knows = knows.clone();
            return b;
        }

        boolean smells(Spa spa, int what) {
            int others = 0;
            for (int s = 0; s < 4; s++) if (s != what) others += spa.much[tub][s];
            return what != scent && spa.much[tub][what] >= nose() + others / 8;
        }

        int known() {
            int set = 0;
            for (int s = 0; s < 4; s++) if (knows[s]) set += 1 << s;
            return set;
        }

        int knownMany() {
            int many = 0;
            for (boolean each : knows) many += each ? 1 : 0;
            return many;
        }
    }

    static class Duchess extends Bather {
        @Override int adds(Spa spa) { return super.adds(spa) * 2; }
        @Override int cools() { return super.cools() + 3; }
        @Override int number() { return 1; }
    }

    static class Clerk extends Bather {
        @Override int adds(Spa spa) { return super.adds(spa) / 2; }
        @Override int cools() { return super.cools() - 2; }
        @Override int nose() { return super.nose() / 2; }
        @Override int number() { return 2; }
    }

    static class Spy extends Clerk {
        @Override int adds(Spa spa) { return super.adds(spa) / 4; }
        @Override int nose() { return super.nose() - 20; }
        @Override int number() { return 3; }
    }

    static class Lamplighter extends Spy {
        @Override int adds(Spa spa) { return super.adds(spa) + knownMany(); }
        @Override int nose() { return super.nose() - 20; }
        @Override int number() { return 4; }
    }

    static class Sad extends Bather {
        @Override int adds(Spa spa) { return spa.much[tub][scent] > 0 ? 0 : 64; }
        @Override int cools() { return 10; }
        @Override int nose() { return 400; }
        @Override int number() { return 5; }
    }

    static class Consul extends Duchess {
        @Override int adds(Spa spa) { return super.adds(spa) + spa.warmth[tub]; }
        @Override int cools() { return super.cools() * 2; }
        @Override int nose() { return super.nose() + 200; }
        @Override int number() { return 6; }
    }

    static Bather make(int kind) {
        switch (kind) {
            case 0: return new Bather();
            case 1: return new Duchess();
            case 2: return new Clerk();
            case 3: return new Spy();
            case 4: return new Lamplighter();
            case 5: return new Sad();
            case 6: return new Consul();
            default: throw new IllegalArgumentException("kind " + kind);
        }
    }

    static final List<Class<?>> CLASSES =
        List.of(Bather.class, Duchess.class, Clerk.class, Spy.class, Lamplighter.class, Sad.class, Consul.class);

    static final class Spa {
        int[] warmth = new int[10];
        int[][] much = new int[10][4];
        List<Bather> bathers = new ArrayList<>();
        int fresh = 90, hour = 0, z = 1;
        int[] spots = {-1, -1, -1, -1, -1, -1, -1, -1, -1, -1};

        Spa twin() {
            Spa t = new Spa();
            t.warmth = warmth.clone();
            for (int i = 0; i < 10; i++) t.much[i] = much[i].clone();
            for (Bather b : bathers) t.bathers.add(b.as(b.number()));
            t.fresh = fresh;
            t.hour = hour;
            t.z = z;
            t.spots = spots.clone();
            return t;
        }

        void hour(int gone) {
            int[] newWarmth = new int[10];
            int[][] newMuch = new int[10][4];
            newWarmth[0] = fresh;
            for (int t = 1; t < 10; t++) {
                newWarmth[t] = warmth[t - 1] < 4 ? 0 : warmth[t - 1] - 4;
                for (int s = 0; s < 4; s++) newMuch[t][s] = (int) Math.floor(0.75 * much[t - 1][s]);
            }
            warmth = newWarmth;
            much = newMuch;
            for (int i = 0; i < bathers.size(); i++) {
                if ((gone & 1 << i) != 0) continue;
                Bather b = bathers.get(i);
                warmth[b.tub] -= b.cools();
                if (warmth[b.tub] < 0) warmth[b.tub] = 0;
                much[b.tub][b.scent] += b.adds(this);
                if (much[b.tub][b.scent] > 9999) much[b.tub][b.scent] = 9999;
            }
            for (int i = 0; i < bathers.size(); i++) {
                if ((gone & 1 << i) != 0) continue;
                Bather b = bathers.get(i);
                for (int s = 0; s < 4; s++) if (b.smells(this, s)) b.knows[s] = true;
            }
            hour++;
        }

        Spa behind(int n) { return behind(n, 0); }

        Spa behind(int n, int gone) {
            Spa t = twin();
            for (int i = 0; i < n; i++) t.hour(gone);
            return t;
        }

        void pull(int tub) {
            warmth[tub] = 0;
            much[tub] = new int[4];
        }

        int sum(int tub) { return much[tub][0] + much[tub][1] + much[tub][2] + much[tub][3]; }

        boolean anyLearns(int scent, int n, int gone) {
            Spa later = behind(n, gone);
            for (int i = 0; i < bathers.size(); i++) {
                if (later.bathers.get(i).knows[scent] && !bathers.get(i).knows[scent]) return true;
            }
            return false;
        }
    }

    Spa spa = new Spa(), kept = null;
    Object[] sheets = new Object[4];
    StringBuilder tape = new StringBuilder();
    int[] found = new int[7];

    int tell(int finding) {
        found[LOW - finding]++;
        return finding;
    }

    boolean out(int v, int from, int to) { return v < from || v > to; }

    boolean noBather(int b) { return out(b, 0, spa.bathers.size() - 1); }

    int warm(int tub, int v) {
        if (out(tub, 0, 9) || out(v, 0, 99)) return tell(BEYOND);
        int was = spa.warmth[tub];
        spa.warmth[tub] = v;
        return was;
    }

    int scent(int tub, int scent, int v) {
        if (out(tub, 0, 9) || out(scent, 0, 3) || out(v, 0, 9999)) return tell(BEYOND);
        int was = spa.much[tub][scent];
        spa.much[tub][scent] = v;
        return was;
    }

    int tub(int tub, int what) {
        if (out(tub, 0, 9) || out(what, 0, 6)) return tell(BEYOND);
        if (what < 4) return spa.much[tub][what];
        if (what == 4) return spa.warmth[tub];
        if (what == 6) return spa.sum(tub);
        int set = 0;
        for (int i = 0; i < spa.bathers.size(); i++) if (spa.bathers.get(i).tub == tub) set += 1 << i;
        return set;
    }

    int fresh(int v) {
        if (out(v, 0, 99)) return tell(BEYOND);
        int was = spa.fresh;
        spa.fresh = v;
        return was;
    }

    int plug(int tub) {
        if (out(tub, 0, 9)) return tell(BEYOND);
        int was = spa.sum(tub);
        spa.pull(tub);
        return was;
    }

    int bather(int kind, int tub) {
        if (out(kind, 0, 6) || out(tub, 0, 9)) return tell(BEYOND);
        if (spa.bathers.size() == 8) return tell(FULL);
        Bather b = make(kind);
        b.tub = tub;
        spa.bathers.add(b);
        return spa.bathers.size() - 1;
    }

    int of(int bather, int what) {
        if (noBather(bather) || out(what, 0, 7)) return tell(BEYOND);
        Bather b = spa.bathers.get(bather);
        if (what == 7) {
            int set = 0;
            for (int s = 0; s < 4; s++) if (b.smells(spa, s)) set += 1 << s;
            return set;
        }
        return new int[] {b.number(), b.tub, b.scent, b.known(), b.adds(spa), b.cools(), b.nose()}[what];
    }

    int change(int bather, int what, int v) {
        if (noBather(bather) || out(what, 0, 3) || out(v, 0, new int[] {6, 9, 3, 15}[what])) return tell(BEYOND);
        int was = of(bather, what);
        Bather b = spa.bathers.get(bather);
        if (what == 0) spa.bathers.set(bather, b.as(v));
        if (what == 1) b.tub = v;
        if (what == 2) b.scent = v;
        if (what == 3) for (int s = 0; s < 4; s++) b.knows[s] = (v & 1 << s) != 0;
        return was;
    }

    int swap(int a, int b) {
        if (noBather(a) || noBather(b) || a == b) return tell(BEYOND);
        Bather x = spa.bathers.get(a), y = spa.bathers.get(b);
        if (x.tub == y.tub) return 0;
        int tub = x.tub;
        x.tub = y.tub;
        y.tub = tub;
        return 1;
    }

    int go(int n) {
        if (out(n, 1, 40)) return tell(BEYOND);
        if (spa.hour + n > 99999) return tell(STATE);
        for (int i = 0; i < n; i++) spa.hour(0);
        return spa.warmth[9];
    }

    int now(int what) {
        if (out(what, 0, 5)) return tell(BEYOND);
        int all = 0;
        switch (what) {
            case 0: return spa.hour;
            case 1: for (int w : spa.warmth) all += w; return all;
            case 2: for (int t = 0; t < 10; t++) all += spa.sum(t); return all;
            case 3: for (int t = 0; t < 10; t++) if (spa.warmth[t] < 40) all += 1 << t; return all;
            default:
        }
        for (int i = 0; i < spa.bathers.size(); i++) {
            Bather b = spa.bathers.get(i);
            boolean so = true;
            if (what == 4) for (int s = 0; s < 4; s++) so &= b.knows[s] || s == b.scent;
            if (what == 5) for (Bather other : spa.bathers) so &= other == b || !other.knows[b.scent];
            if (so) all += 1 << i;
        }
        return all;
    }

    int ahead(int tub, int what, int n) {
        if (out(tub, 0, 9) || out(what, 0, 4) || out(n, 0, 60)) return tell(BEYOND);
        Spa later = spa.behind(n);
        return what < 4 ? later.much[tub][what] : later.warmth[tub];
    }

    int knows(int bather, int n) {
        if (noBather(bather) || out(n, 0, 60)) return tell(BEYOND);
        return spa.behind(n).bathers.get(bather).known();
    }

    int hours(Spa from, int bather, int scent) {
        for (int n = 0; n <= 60; n++) if (from.behind(n).bathers.get(bather).knows[scent]) return n;
        return 61;
    }

    int when(int bather, int scent) {
        if (noBather(bather) || out(scent, 0, 3)) return tell(BEYOND);
        int n = hours(spa, bather, scent);
        return n > 60 ? tell(NONE) : n;
    }

    int cold(int tub, int v) {
        if (out(tub, 0, 9) || out(v, 0, 99)) return tell(BEYOND);
        for (int n = 0; n <= 60; n++) if (spa.behind(n).warmth[tub] < v) return n;
        return tell(NONE);
    }

    int rest(int much, int n) {
        for (int i = 0; i < n; i++) much = (int) Math.floor(0.75 * much);
        return much;
    }

    int left(int much, int n) {
        if (out(much, 0, 9999) || out(n, 0, 9)) return tell(BEYOND);
        return rest(much, n);
    }

    int needed(int v, int n) {
        if (out(v, 0, 500) || out(n, 0, 9)) return tell(BEYOND);
        for (int much = 0; much <= 9999; much++) if (rest(much, n) >= v) return much;
        return tell(NONE);
    }

    int swapFor(int bather, int n) {
        if (noBather(bather) || out(n, 0, 40)) return tell(BEYOND);
        int best = -1, most = -1;
        for (int other = 0; other < spa.bathers.size(); other++) {
            if (other == bather) continue;
            Spa t = spa.twin();
            t.bathers.get(bather).tub = spa.bathers.get(other).tub;
            t.bathers.get(other).tub = spa.bathers.get(bather).tub;
            int many = t.behind(n).bathers.get(bather).knownMany();
            if (many > most) { most = many; best = other; }
        }
        return best < 0 ? tell(NONE) : best;
    }

    int seat(int bather, int scent) {
        if (noBather(bather) || out(scent, 0, 3)) return tell(BEYOND);
        int best = -1, least = 61;
        for (int tub = 0; tub < 10; tub++) {
            Spa t = spa.twin();
            t.bathers.get(bather).tub = tub;
            int n = hours(t, bather, scent);
            if (n < least) { least = n; best = tub; }
        }
        return best < 0 ? tell(NONE) : best;
    }

    int kindFor(int bather, int n) {
        if (noBather(bather) || out(n, 0, 40)) return tell(BEYOND);
        int best = -1, most = -1;
        for (int kind = 0; kind < 7; kind++) {
            Spa t = spa.twin();
            t.bathers.set(bather, t.bathers.get(bather).as(kind));
            int many = t.behind(n).bathers.get(bather).knownMany();
            if (many > most) { most = many; best = kind; }
        }
        return best;
    }

    int freshFor(int v, int n) {
        if (out(v, 0, 99) || out(n, 0, 40)) return tell(BEYOND);
        for (int fresh = 0; fresh < 100; fresh++) {
            Spa t = spa.twin();
            t.fresh = fresh;
            t = t.behind(n);
            boolean warm = true;
            for (int w : t.warmth) warm &= w >= v;
            if (warm) return fresh;
        }
        return tell(NONE);
    }

    int hides(int tub, int by, int scent, int n) {
        if (out(tub, 0, 9) || out(by, 0, 3) || out(scent, 0, 3) || out(n, 0, 20) || by == scent) return tell(BEYOND);
        for (int more = 0; spa.much[tub][by] + more <= 9999; more += 10) {
            Spa t = spa.twin();
            t.much[tub][by] += more;
            if (!t.anyLearns(scent, n, 0)) return more;
        }
        return tell(NONE);
    }

    int leave(int scent, int n) {
        if (out(scent, 0, 3) || out(n, 0, 20)) return tell(BEYOND);
        for (int many = 0; many <= 8; many++) {
            for (int set = 0; set < 1 << spa.bathers.size(); set++) {
                if (Integer.bitCount(set) == many && !spa.anyLearns(scent, n, set)) return set;
            }
        }
        throw new IllegalStateException("all may leave");
    }

    int plugFor(int scent, int n) {
        if (out(scent, 0, 3) || out(n, 0, 40)) return tell(BEYOND);
        int best = -1, fewest = 9;
        for (int tub = 0; tub < 10; tub++) {
            Spa t = spa.twin();
            t.pull(tub);
            int many = 0;
            for (Bather b : t.behind(n).bathers) if (b.knows[scent]) many++;
            if (many < fewest) { fewest = many; best = tub; }
        }
        return best;
    }

    boolean fitsTo(Spa t, Object row) {
        for (int i = 0; i < length(row); i++) {
            int told = get(row, i);
            if (told != -1 && told != t.behind(i).much[9][0]) return false;
        }
        return true;
    }

    int fits(int s, int bather) {
        if (out(s, 0, 3)) return tell(BEYOND);
        if (sheets[s] == null) return tell(MISSING);
        if (noBather(bather)) return tell(BEYOND);
        int set = 0;
        for (int scent = 0; scent < 4; scent++) {
            Spa t = spa.twin();
            t.bathers.get(bather).scent = scent;
            if (fitsTo(t, sheets[s])) set += 1 << scent;
        }
        return set;
    }

    int kinds(int s, int bather) {
        if (out(s, 0, 3)) return tell(BEYOND);
        if (sheets[s] == null) return tell(MISSING);
        if (noBather(bather)) return tell(BEYOND);
        int set = 0;
        for (int kind = 0; kind < 7; kind++) {
            Spa t = spa.twin();
            t.bathers.set(bather, t.bathers.get(bather).as(kind));
            if (fitsTo(t, sheets[s])) set += 1 << kind;
        }
        return set;
    }

    int plugs(int n) {
        if (out(n, 1, 20)) return tell(BEYOND);
        if (spa.hour + n > 99999) return tell(STATE);
        for (int i = 0; i < n; i++) {
            spa.z = spa.z * 1103515245 + 12345;
            spa.pull((int) ((spa.z & 0xffffffffL) / 256 % 10));
            spa.hour(0);
        }
        return now(1);
    }

    long odds(int n, int what) {
        if (out(n, 0, 18) || out(what, 0, 1)) return tell(BEYOND);
        int free = 0;
        for (int t = 0; t < 10; t++) if (tub(t, 5) == 0) free++;
        BigInteger above = BigInteger.valueOf(free).pow(n), below = BigInteger.TEN.pow(n);
        return (what == 0 ? above : below).divide(above.gcd(below)).longValueExact();
    }

    int seed(int v) {
        int was = spa.z;
        spa.z = v;
        return was;
    }

    int feed(int bytes, int n) {
        if (out(n, 1, 4)) return tell(BEYOND);
        if (tape.length() + n > 120) return tell(FULL);
        for (int i = n; i > 0; i--) tape.append((char) (bytes >> 8 * i - 8 & 255));
        return tape.length();
    }

    int wipe() {
        int was = tape.length();
        tape = new StringBuilder();
        return was;
    }

    int text() {
        ModelText reading = new ModelText(tape.toString(), spa.twin());
        tape = new StringBuilder();
        int answer = reading.answer();
        if (answer >= 0) spa = reading.spa;
        return answer;
    }

    int hold(int spot, int bather) {
        if (out(spot, 0, 9) || out(bather, -1, spa.bathers.size() - 1)) return tell(BEYOND);
        spa.spots[spot] = bather;
        return 1;
    }

    int as(int spot, int kind) {
        if (out(spot, 0, 9) || out(kind, 0, 6)) return tell(BEYOND);
        if (spa.spots[spot] < 0) return tell(MISSING);
        return CLASSES.get(kind).isInstance(spa.bathers.get(spa.spots[spot])) ? spa.spots[spot] : tell(KIND);
    }

    int sheet(int s, int bits, int n) {
        if (out(s, 0, 3) || bits != 0 && bits != 8 && bits != 16 && bits != 32) return tell(BEYOND);
        if (n < 0) return tell(SIZE);
        if (n > 40) return tell(BEYOND);
        sheets[s] = bits == 0 ? null : bits == 8 ? new byte[n] : bits == 16 ? new short[n] : new int[n];
        return bits == 0 ? 0 : n;
    }

    static int length(Object row) { return java.lang.reflect.Array.getLength(row); }

    static int get(Object row, int i) { return java.lang.reflect.Array.getInt(row, i); }

    int write(int s, int i, int v) {
        if (out(s, 0, 3)) return tell(BEYOND);
        if (sheets[s] == null) return tell(MISSING);
        if (out(i, 0, length(sheets[s]) - 1)) return tell(BEYOND);
        if (sheets[s] instanceof byte[] row) row[i] = (byte) v;
        if (sheets[s] instanceof short[] row) row[i] = (short) v;
        if (sheets[s] instanceof int[] row) row[i] = v;
        return 1;
    }

    int copy(int s, int from, int t, int to, int n) {
        if (out(s, 0, 3) || out(t, 0, 3)) return tell(BEYOND);
        if (sheets[s] == null || sheets[t] == null) return tell(MISSING);
        if (sheets[s].getClass() != sheets[t].getClass()) return tell(KIND);
        if (from < 0 || to < 0 || n < 0) return tell(BEYOND);
        if ((long) from + n > length(sheets[s]) || (long) to + n > length(sheets[t])) return tell(BEYOND);
        int[] were = new int[n];
        for (int i = 0; i < n; i++) were[i] = get(sheets[s], from + i);
        for (int i = 0; i < n; i++) write(t, to + i, were[i]);
        return n;
    }

    int load(int s) {
        if (out(s, 0, 3)) return tell(BEYOND);
        if (sheets[s] == null) return tell(MISSING);
        for (int i = 0; i < length(sheets[s]); i++) {
            if (i == 10 || out(get(sheets[s], i), 0, 99)) return i;
            spa.warmth[i] = get(sheets[s], i);
        }
        return length(sheets[s]);
    }

    int judge(int s) {
        if (out(s, 0, 3)) return tell(BEYOND);
        if (sheets[s] == null) return tell(MISSING);
        for (int i = 0; i < length(sheets[s]); i++) {
            if (i >= spa.bathers.size() || spa.bathers.get(i).known() != get(sheets[s], i)) return 1 + i;
        }
        return 0;
    }

    int image() {
        kept = spa.twin();
        return 1;
    }

    int undo() {
        if (kept == null) return tell(NONE);
        spa = kept.twin();
        return spa.hour;
    }

    int tear() {
        int was = kept == null ? 0 : 1;
        kept = null;
        return was;
    }

    int count(int what) {
        if (out(what, 0, 7)) return tell(BEYOND);
        int many = 0;
        switch (what) {
            case 0: return spa.hour;
            case 1: return spa.bathers.size();
            case 2: for (Bather b : spa.bathers) many += b.knownMany(); return many;
            case 3: return now(1);
            case 4: return now(2);
            case 5: return tape.length();
            case 6: return spa.z;
            default: for (int b : spa.spots) many += b < 0 ? 0 : 1; return many;
        }
    }

    int status(int which) {
        if (out(which, -1, 6)) return tell(BEYOND);
        if (which >= 0) return found[which];
        int all = 0;
        for (int each : found) all += each;
        return all;
    }
}

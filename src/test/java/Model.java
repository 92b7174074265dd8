import java.math.BigInteger;
import java.util.ArrayDeque;
import java.util.ArrayList;
import java.util.Comparator;
import java.util.Deque;
import java.util.List;
import java.util.regex.Matcher;
import java.util.regex.Pattern;

/**
 * The document once more, written in other ways than RainShelves so that both are not wrong alike:
 * a pan is a list of single spoons, springs go by one after the other, sets are tried out.
 */
final class Model {
    static final int BAD = -1, STATE = -2, FULL = -3, NONE = -9, NO = -1000000;

    /** What is told of a pan. */
    record Told(int number, int year, int spoons, int shrinks, int sort) { }

    /** What there is at one time: for each pan the spoons in it, each as the pan of whose rain it is. */
    record State(List<List<Told>> pans, int spring, int lost) { }

    private final StringBuilder text = new StringBuilder();
    private List<Told> told = new ArrayList<>();
    private int least = 5;
    private int shelf = 60;
    private State state = new State(new ArrayList<>(), 0, 0);
    private Deque<State> past = new ArrayDeque<>();
    private State[] images = new State[2];
    private List<int[]> levels = new ArrayList<>();
    private long trace = 0;

    int type(int letter) {
        if (letter < 0 || letter > 255) return BAD;
        if (text.length() == 200) return FULL;
        text.append((char) letter);
        return text.length();
    }

    int clear() {
        int had = text.length();
        text.setLength(0);
        return had;
    }

    // ---- the text: what may stand where is a list of what may follow

    private record Token(String word, int place) { }

    private static List<Token> tokens(String text) {
        List<Token> all = new ArrayList<>();
        Matcher m = Pattern.compile("[0-9]+|[^ ]", Pattern.DOTALL).matcher(text);
        while (m.find()) all.add(new Token(m.group(), m.start()));
        all.add(new Token("", text.length()));
        return all;
    }

    private static boolean isNumber(String word, int low, int high) {
        if (!word.matches("0|[1-9][0-9]?")) return false;
        int n = Integer.parseInt(word);
        return n >= low && n <= high;
    }

    private static final int[][] LIMITS_P = {{0, 99}, {0, 60}, {0, 9}, {0, 2}};
    private static final int[][] LIMITS_L = {{1, 60}};
    private static final int[][] LIMITS_S = {{10, 99}};

    int house() {
        List<Told> pans = new ArrayList<>();
        int newLeast = -1, newShelf = -1, items = 0;
        List<Token> all = tokens(text.toString());
        int i = 0;
        while (!all.get(i).word.isEmpty()) {
            Token first = all.get(i++);
            int[][] limits;
            switch (first.word) {
                case "p": limits = pans.size() < 7 ? LIMITS_P : null; break;
                case "l": limits = newLeast < 0 ? LIMITS_L : null; break;
                case "s": limits = newShelf < 0 ? LIMITS_S : null; break;
                default: limits = null;
            }
            if (limits == null) return -10 - first.place;
            List<Integer> numbers = new ArrayList<>();
            for (int[] limit : limits) {
                Token t = all.get(i++);
                if (!isNumber(t.word, limit[0], limit[1])) return -10 - t.place;
                numbers.add(Integer.parseInt(t.word));
            }
            Token last = all.get(i++);
            if (!last.word.equals(";")) return -10 - last.place;
            if (first.word.equals("p")) {
                pans.add(new Told(pans.size(), numbers.get(0), numbers.get(1), numbers.get(2), numbers.get(3)));
            }
            if (first.word.equals("l")) newLeast = numbers.get(0);
            if (first.word.equals("s")) newShelf = numbers.get(0);
            items++;
        }
        becomeNew(pans, newLeast, newShelf);
        return items;
    }

    private void becomeNew(List<Told> pans, int newLeast, int newShelf) {
        told = pans;
        least = newLeast < 0 ? 5 : newLeast;
        shelf = newShelf < 0 ? 60 : newShelf;
        List<List<Told>> held = new ArrayList<>();
        for (Told t : told) {
            List<Told> spoons = new ArrayList<>();
            for (int n = 0; n < t.spoons; n++) spoons.add(t);
            held.add(spoons);
        }
        state = new State(held, 0, 0);
        past = new ArrayDeque<>();
        images = new State[2];
        levels = new ArrayList<>();
        text.setLength(0);
    }

    // ---- states; none is ever changed, each deed makes a new one

    private static List<List<Told>> copy(State s) {
        List<List<Told>> pans = new ArrayList<>();
        for (List<Told> pan : s.pans) pans.add(new ArrayList<>(pan));
        return pans;
    }

    private static final Comparator<Told> AGE = Comparator.comparingInt(Told::year).thenComparingInt(Told::number);

    private static List<Told> taken(List<Told> pan, int n) {
        pan.sort(AGE);
        List<Told> out = new ArrayList<>();
        while (out.size() < n && !pan.isEmpty()) out.add(pan.remove(0));
        return out;
    }

    private static State used(State s, int p, int n) {
        List<List<Told>> pans = copy(s);
        int gone = taken(pans.get(p), n).size();
        return new State(pans, s.spring, s.lost + gone);
    }

    private State springed(State s) {
        List<List<Told>> pans = copy(s);
        int gone = 0;
        for (int p = 0; p < pans.size(); p++) gone += taken(pans.get(p), told.get(p).shrinks).size();
        return new State(pans, s.spring + 1, s.lost + gone);
    }

    private State springed(State s, int n) {
        State then = s;
        for (int i = 0; i < n; i++) then = springed(then);
        return then;
    }

    private boolean read(State s, int p) {
        int own = 0;
        for (Told t : s.pans.get(p)) {
            if (t.number != p) return false;
            own++;
        }
        return own >= least;
    }

    private int readCount(State s) {
        int n = 0;
        for (int p = 0; p < s.pans.size(); p++) if (read(s, p)) n++;
        return n;
    }

    private boolean no(int p) {
        return p < 0 || p >= told.size();
    }

    private int size(int p) {
        return state.pans.get(p).size();
    }

    private void done(State then) {
        past.addLast(state);
        if (past.size() > 10) past.removeFirst();
        state = then;
    }

    int pan(int p, int what) {
        if (no(p) || what < 0 || what > 6) return BAD;
        Told t = told.get(p);
        int bits = 0;
        for (int q = 0; q < told.size(); q++) if (state.pans.get(q).contains(t)) bits += 1 << q;
        int[] all = {t.year, t.shrinks, t.sort, size(p), read(state, p) ? 1 : 0,
            state.pans.get(p).stream().mapToInt(Told::year).sum(), bits};
        return all[what];
    }

    int holds(int p, int of) {
        if (no(p) || no(of)) return BAD;
        return (int) state.pans.get(p).stream().filter(t -> t.number == of).count();
    }

    int now(int what) {
        int bits = 0, all = 0;
        int[] byYear = new int[100];
        for (int p = 0; p < told.size(); p++) {
            if (read(state, p)) bits += 1 << p;
            all += size(p);
            for (Told t : state.pans.get(p)) byYear[t.year]++;
        }
        int wettest = 0;
        for (int y = 1; y < 100; y++) if (byYear[y] > byYear[wettest]) wettest = y;
        switch (what) {
            case 0: return state.spring;
            case 1: return state.lost;
            case 2: return all;
            case 3: return bits;
            case 4: return all == 0 ? NONE : wettest;
            case 5: return past.size();
            default: return BAD;
        }
    }

    int uses(int p, int n) {
        if (no(p) || n < 1 || n > 99) return BAD;
        if (size(p) == 0) return STATE;
        State then = used(state, p, n);
        int gone = then.lost - state.lost;
        done(then);
        return gone;
    }

    int pours(int a, int b, int n) {
        if (no(a) || no(b) || a == b || n < 1 || n > 99) return BAD;
        if (size(a) == 0) return STATE;
        List<List<Told>> pans = copy(state);
        List<Told> out = taken(pans.get(a), n);
        pans.get(b).addAll(out);
        done(new State(pans, state.spring, state.lost));
        return out.size();
    }

    int spring() {
        if (state.spring == 999) return STATE;
        int lost = state.lost;
        done(springed(state));
        return state.lost - lost;
    }

    int splits(int p) {
        if (no(p)) return BAD;
        int held = size(p);
        if (held == 0) return STATE;
        done(used(state, p, held));
        return held;
    }

    int undo() {
        if (past.isEmpty()) return STATE;
        state = past.removeLast();
        return past.size();
    }

    int lasts(int p) {
        if (no(p)) return BAD;
        State then = state;
        for (int n = 0; n <= 400; n++) {
            if (!read(then, p)) return n;
            then = springed(then);
        }
        return NONE;
    }

    int inSprings(int n, int p) {
        if (n < 0 || n > 200 || p != -1 && no(p)) return BAD;
        State then = springed(state, n);
        return p == -1 ? readCount(then) : then.pans.get(p).size();
    }

    int fire(int n, int what) {
        if (n < 1 || n > 400 || what < 0 || what > 1) return BAD;
        int[] best = null;
        for (int set = 0; set < 1 << told.size(); set++) {
            State then = state;
            int held = 0;
            for (int p = 0; p < told.size(); p++) {
                if ((set >> p) % 2 == 1) {
                    held += size(p);
                    then = used(then, p, size(p));
                }
            }
            if (held < n) continue;
            int[] row = {-readCount(then), held, set};
            if (best == null || java.util.Arrays.compare(row, best) < 0) best = row;
        }
        return best == null ? NONE : what == 0 ? best[2] : -best[0];
    }

    int spoil(int p) {
        if (no(p)) return BAD;
        int n = 0;
        while (read(used(state, p, n), p)) n++;
        return n;
    }

    int mix(int t, int s, int what) {
        if (t < 1 || t > 60 || s < 0 || s > 5940 || what < 0 || what > 1) return BAD;
        List<Integer> ways = new ArrayList<>();
        for (Told a : told) for (Told b : told) for (int n = 1; n < t; n++) {
            int sum = 0;
            for (int i = 0; i < t; i++) sum += i < n ? a.year : b.year;
            if (a.number < b.number && a.year != b.year && sum == s) ways.add(1000 * a.number + 100 * b.number + n);
        }
        return what == 0 ? ways.size() : ways.isEmpty() ? NONE : ways.get(0);
    }

    int levels(int k, int p, int v) {
        if (k < 0 || k > 60 || no(p) || v < 0 || v > 420) return BAD;
        if (levels.size() == 5) return FULL;
        levels.add(new int[] {k, p, v});
        return levels.size();
    }

    int forget() {
        int had = levels.size();
        levels = new ArrayList<>();
        return had;
    }

    int theft(int what) {
        if (what < 0 || what > 2) return BAD;
        List<Integer> ways = new ArrayList<>();
        int bits = 0;
        for (int p = 0; p < told.size(); p++) {
            for (int n = 1; n <= 20 && n <= size(p); n++) {
                State then = used(state, p, n);
                boolean so = true;
                for (int[] level : levels) {
                    so = so && springed(then, level[0]).pans.get(level[1]).size() == level[2];
                }
                if (so) {
                    ways.add(100 * p + n);
                    bits |= 1 << p;
                }
            }
        }
        return what == 0 ? ways.size() : what == 2 ? bits : ways.isEmpty() ? NONE : ways.get(0);
    }

    int shelves() {
        for (int p = 0; p < told.size(); p++) if (size(p) > shelf) return NONE;
        return place(0, new ArrayList<>());
    }

    /** Puts pan p and those behind it onto the shelves there are, or onto a new one. */
    private int place(int p, List<int[]> there) {
        if (p == told.size()) return there.size();
        if (size(p) == 0) return place(p + 1, there);
        int hail = told.get(p).sort == 2 ? 1 : 0;
        int best = Integer.MAX_VALUE;
        for (int i = 0; i < there.size(); i++) {
            int[] one = there.get(i);
            if (one[1] == hail && one[0] + size(p) <= shelf) {
                one[0] += size(p);
                best = Math.min(best, place(p + 1, there));
                one[0] -= size(p);
            }
        }
        there.add(new int[] {size(p), hail});
        best = Math.min(best, place(p + 1, there));
        there.remove(there.size() - 1);
        return best;
    }

    int beside(int p) {
        if (no(p)) return BAD;
        if (size(p) == 0 || size(p) > shelf) return NONE;
        boolean hail = told.get(p).sort == 2;
        List<Integer> others = new ArrayList<>();
        for (int q = 0; q < told.size(); q++) {
            if (q != p && size(q) > 0 && (told.get(q).sort == 2) == hail) others.add(size(q));
        }
        others.sort(null);
        int sum = size(p), n = 0;
        while (n < others.size() && sum + others.get(n) <= shelf) sum += others.get(n++);
        return n;
    }

    int odds(int x, int k, int what) {
        if (x < 0 || x > 10 || k < 0 || k > 7 || what < 0 || what > 1) return BAD;
        int pans = readCount(state);
        BigInteger upper = BigInteger.ZERO, lower = BigInteger.TEN.pow(pans);
        for (int left = 0; left < 1 << pans; left++) {
            int n = Integer.bitCount(left);
            if (n >= k) upper = upper.add(BigInteger.valueOf(10 - x).pow(n).multiply(BigInteger.valueOf(x).pow(pans - n)));
        }
        BigInteger both = upper.gcd(lower);
        return (what == 0 ? upper : lower).divide(both).intValueExact();
    }

    // ---- kinds, as classes over one another

    private class Pan {
        int rate(int p) { trace += 1; return size(p); }
    }
    private class Saucer extends Pan {
        @Override int rate(int p) { trace += 10; return super.rate(p) + told.get(p).shrinks; }
    }
    private class Bottle extends Pan {
        @Override int rate(int p) { trace += 100; return super.rate(p) - told.get(p).year; }
    }
    private class Font extends Saucer {
        @Override int rate(int p) { trace += 1000; return 2 * super.rate(p); }
    }
    private class Phial extends Bottle {
        @Override int rate(int p) { trace += 10000; return super.rate(p) + p; }
    }
    private class Urn extends Pan {
        @Override int rate(int p) { trace += 100000; return super.rate(p) + state.spring; }
    }

    int rate(int kind, int p) {
        if (kind < 0 || kind > 5 || no(p)) return NO;
        Pan[] kinds = {new Pan(), new Saucer(), new Bottle(), new Font(), new Phial(), new Urn()};
        return kinds[kind].rate(p);
    }

    int keep(int image) {
        if (image < 0 || image > 1) return BAD;
        images[image] = state;
        return state.spring;
    }

    int back(int image) {
        if (image < 0 || image > 1) return BAD;
        if (images[image] == null) return STATE;
        state = images[image];
        past = new ArrayDeque<>();
        return state.spring;
    }

    int count(int what) {
        if (what < 0 || what > 4) return BAD;
        return new int[] {told.size(), least, shelf, levels.size(), text.length()}[what];
    }

    long trace() {
        return trace;
    }
}

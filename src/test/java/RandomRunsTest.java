import java.util.Random;

/** All promises: the same random runs each time, of 512 calls at most, against Model. */
public final class RandomRunsTest {
    private static final int RUNS = 400;
    private static final int MOST_CALLS = 512;
    /** No turn begins with fewer calls left: undoAll() makes as many. A text is cut off ahead of the end. */
    private static final int LONGEST_TURN = 12;
    private static final Check CHECK = new Check("RandomRunsTest");

    private final Random random;
    private final int run;
    private final RainShelves x = new RainShelves();
    private final Model m = new Model();
    private int calls = 0;
    /** How many pans numbers are chosen among; the last text's, told rightly or not. */
    private int pans = 3;

    private RandomRunsTest(int run) {
        this.run = run;
        this.random = new Random(7919L * run);
    }

    public static void main(String[] args) {
        for (int run = 1; run <= RUNS && CHECK.wrong() == 0; run++) {
            new RandomRunsTest(run).go();
        }
        CHECK.end();
    }

    private void due(String call, long got, long want) {
        CHECK.due("run " + run + ", call " + calls + ", " + call, got, want);
        calls++;
    }

    private void go() {
        if (random.nextInt(8) > 0) {
            tell(goodText());
        }
        while (calls <= MOST_CALLS - LONGEST_TURN && CHECK.wrong() == 0) {
            int choice = random.nextInt(100);
            if (choice == 0) {
                tell(random.nextInt(3) == 0 ? goodText() : badText());
            } else if (choice < 35) {
                deed();
            } else if (choice < 40) {
                small();
            } else {
                ask();
            }
        }
    }

    /** A number between low and high, seldom just beyond, now and then far off. */
    private int number(int low, int high) {
        int choice = random.nextInt(60);
        if (choice == 0) return low - 1;
        if (choice == 1) return high + 1;
        if (choice == 2) return random.nextInt();
        if (choice == 3) return random.nextBoolean() ? low : high;
        return low + random.nextInt(high - low + 1);
    }

    private int pan() {
        return number(0, pans - 1);
    }

    private String blanks() {
        return " ".repeat(Math.max(0, random.nextInt(5) - 3));
    }

    private String goodText() {
        pans = 1 + random.nextInt(7);
        int years = 1 + random.nextInt(4) * random.nextInt(34);
        int most = random.nextBoolean() ? 60 : 12;
        StringBuilder s = new StringBuilder();
        boolean least = random.nextBoolean(), shelf = random.nextInt(3) > 0;
        for (int p = 0; p < pans; p++) {
            if (least && random.nextInt(pans) == 0) {
                s.append(blanks()).append("l").append(blanks()).append(1 + random.nextInt(most)).append(blanks()).append(";");
                least = false;
            }
            s.append(blanks()).append("p").append(blanks()).append(random.nextInt(years)).append(" ")
                .append(blanks()).append(random.nextInt(most + 1)).append(" ").append(random.nextInt(random.nextBoolean() ? 3 : 10))
                .append(" ").append(random.nextInt(3)).append(blanks()).append(";");
        }
        if (shelf) {
            s.append("s").append(10 + random.nextInt(90)).append(";");
        }
        return s.append(blanks()).toString();
    }

    private String badText() {
        StringBuilder s = new StringBuilder(goodText());
        String letters = "pls;0123456789 xP,-\t\n" + (char) 160 + (char) 255 + (char) 0;
        for (int n = random.nextInt(4); n >= 0 && s.length() > 0; n--) {
            int place = random.nextInt(s.length());
            char letter = letters.charAt(random.nextInt(letters.length()));
            switch (random.nextInt(5)) {
                case 0: s.setCharAt(place, letter); break;
                case 1: s.insert(place, letter); break;
                case 2: s.deleteCharAt(place); break;
                case 3: s.setLength(place); break;
                default: s.append(s.substring(place)); break;
            }
        }
        return s.toString();
    }

    private void tell(String text) {
        for (int i = 0; i < text.length() && calls < MOST_CALLS - 2; i++) {
            int letter = text.charAt(i);
            due("type(" + letter + ")", x.type(letter), m.type(letter));
        }
        int items = m.house();
        due("house() of '" + text + "'", x.house(), items);
        if (items < 0 && random.nextBoolean()) {
            due("clear()", x.clear(), m.clear());
        }
        pans = Math.max(1, m.count(0));
    }

    private void deed() {
        int a = pan(), b = pan(), n = number(1, random.nextBoolean() ? 99 : 9), image = number(0, 1);
        switch (random.nextInt(14)) {
            case 0: case 1: case 2: due("uses(" + a + ", " + n + ")", x.uses(a, n), m.uses(a, n)); break;
            case 3: case 4: case 5: case 6: case 7:
                due("pours(" + a + ", " + b + ", " + n + ")", x.pours(a, b, n), m.pours(a, b, n)); break;
            case 8: case 9: due("spring()", x.spring(), m.spring()); break;
            case 10: due("splits(" + a + ")", x.splits(a), m.splits(a)); break;
            case 11: due("undo()", x.undo(), m.undo()); break;
            case 12: due("keep(" + image + ")", x.keep(image), m.keep(image)); break;
            default:
                if (random.nextBoolean()) {
                    due("back(" + image + ")", x.back(image), m.back(image));
                } else {
                    undoAll();
                }
        }
    }

    private void undoAll() {
        for (int i = random.nextInt(12); i >= 0; i--) {
            due("undo()", x.undo(), m.undo());
        }
    }

    /** Levels that can be met: what a pan will hold, less a few spoons. */
    private void small() {
        int k = number(0, random.nextBoolean() ? 60 : 4), p = pan();
        int v = random.nextInt(4) == 0 ? number(0, 420) : Math.max(0, m.inSprings(k, p) - random.nextInt(4));
        if (random.nextInt(3) == 0) {
            due("forget()", x.forget(), m.forget());
        }
        due("levels(" + k + ", " + p + ", " + v + ")", x.levels(k, p, v), m.levels(k, p, v));
        for (int what = 0; what < 3; what++) {
            due("theft(" + what + ")", x.theft(what), m.theft(what));
        }
    }

    private void ask() {
        int p = pan(), q = pan();
        switch (random.nextInt(17)) {
            case 0: case 1: { int w = number(0, 6); due("pan(" + p + ", " + w + ")", x.pan(p, w), m.pan(p, w)); break; }
            case 2: case 3: due("holds(" + p + ", " + q + ")", x.holds(p, q), m.holds(p, q)); break;
            case 4: case 5: { int w = number(0, 5); due("now(" + w + ")", x.now(w), m.now(w)); break; }
            case 6: due("lasts(" + p + ")", x.lasts(p), m.lasts(p)); break;
            case 7: {
                int n = number(0, random.nextBoolean() ? 200 : 9), r = number(-1, pans - 1);
                due("inSprings(" + n + ", " + r + ")", x.inSprings(n, r), m.inSprings(n, r));
                due("inSprings(" + n + ", -1)", x.inSprings(n, -1), m.inSprings(n, -1));
                break;
            }
            case 8: {
                int n = number(1, random.nextBoolean() ? 400 : 40), w = number(0, 1);
                due("fire(" + n + ", " + w + ")", x.fire(n, w), m.fire(n, w));
                break;
            }
            case 9: due("spoil(" + p + ")", x.spoil(p), m.spoil(p)); break;
            case 10: mixture(); break;
            case 11: { int w = number(0, 2); due("theft(" + w + ")", x.theft(w), m.theft(w)); break; }
            case 12: due("shelves()", x.shelves(), m.shelves()); break;
            case 13: due("beside(" + p + ")", x.beside(p), m.beside(p)); break;
            case 14: {
                int n = number(0, 10), k = number(0, 7), w = number(0, 1);
                due("odds(" + n + ", " + k + ", " + w + ")", x.odds(n, k, w), m.odds(n, k, w));
                break;
            }
            case 15: {
                int k = number(0, 5);
                due("rate(" + k + ", " + p + ")", x.rate(k, p), m.rate(k, p));
                due("trace()", x.trace(), m.trace());
                break;
            }
            default: { int w = number(0, 4); due("count(" + w + ")", x.count(w), m.count(w)); break; }
        }
    }

    /** Half of them of a sum that two pans do make. */
    private void mixture() {
        int t = number(1, random.nextBoolean() ? 60 : 8), s = number(0, 5940), w = number(0, 1);
        if (random.nextBoolean() && t > 1 && t <= 60) {
            int n = 1 + random.nextInt(t - 1);
            s = Math.max(0, n * m.pan(random.nextInt(pans), 0) + (t - n) * m.pan(random.nextInt(pans), 0));
        }
        due("mix(" + t + ", " + s + ", " + w + ")", x.mix(t, s, w), m.mix(t, s, w));
    }
}

import java.util.ArrayList;
import java.util.List;
import java.util.function.ToLongFunction;

/** 'What it is': one story through all that the first line names, and the 512 calls. */
final class FirstEdges {
    private static final int NONE = RainShelves.NONE;
    private static final int MOST_CALLS = 512;
    private static final String TEXT = "p3 20 2 0;p8 10 1 1;p5 6 0 2;l4;s30;";

    /** A call, as both classes make it. */
    private record Both(String name, ToLongFunction<RainShelves> on, ToLongFunction<Model> due) { }

    private final Edges e;

    FirstEdges(Edges edges) {
        e = edges;
    }

    void run() {
        RainShelves x = new RainShelves();
        told(x);
        done(x);
        asked(x);
        puzzled(x);
        last(x);
        calls();
        laterCalls();
    }

    private void of(String words) {
        e.of(Edges.FIRST, words);
    }

    private void told(RainShelves x) {
        int[][] due = {{3, 2, 0, 20}, {8, 1, 1, 10}, {5, 0, 2, 6}};
        of("told by a text;");
        e.due("its items", Check.tell(x, TEXT), 5);
        of("Shelves of rain:");
        e.due("SHELF", x.count(2), 30);
        of("======== 1 PANS 0 ..");
        e.due("PANS", x.count(0), 3);
        e.due("there is none ahead of PAN 0", x.pan(-1, 3), RainShelves.BAD);
        String[] words = {"pans of rain by years,", "that shrinks each spring,", "soft, dusty or hail,", "each with what it holds,"};
        for (int what = 0; what < 4; what++) {
            of(words[what]);
            for (int p = 0; p < 3; p++) e.due("pan " + p, x.pan(p, what), due[p][what]);
        }
    }

    private void done(RainShelves x) {
        of("rain used by spoons,");
        e.due("uses", x.uses(0, 3), 3);
        e.due("less is there", x.holds(0, 0), 17);
        of("poured from pan to pan,");
        e.due("pours", x.pours(1, 0, 4), 4);
        e.due("it came into the other one", x.holds(0, 1), 4);
        e.due("it is there no more", x.holds(1, 1), 6);
        of("springs that go by,");
        e.due("spring", x.spring(), 3);
        e.due("THE SPRING", x.now(0), 1);
        e.due("the older rain shrinks", x.holds(0, 0), 15);
        of("frost that splits one,");
        e.due("splits", x.splits(2), 6);
        e.due("nothing is in it", x.pan(2, 3), 0);
        of("all of it undone;");
        for (int left = 3; left >= 0; left--) e.due("undo", x.undo(), left);
        e.due("all rain is back", x.now(2), 36);
        e.due("SPRING 0 is back", x.now(0), 0);
    }

    /** PAN 0 is mixed from here on. */
    private void asked(RainShelves x) {
        of("what each pan holds of which,");
        x.pours(1, 0, 4);
        int[][] holds = {{20, 4, 0}, {0, 6, 0}, {0, 0, 6}};
        for (int p = 0; p < 3; p++) {
            for (int q = 0; q < 3; q++) e.due(p + " of " + q, x.holds(p, q), holds[p][q]);
        }
        of("which still can be read,");
        e.due("bits", x.now(3), 6);
        of("how long yet;");
        int[] lasts = {0, 3, NONE};
        for (int p = 0; p < 3; p++) e.due("lasts " + p, x.lasts(p), lasts[p]);
    }

    private void puzzled(RainShelves x) {
        of("which pans to use for a fire so that most can be read,");
        e.due("the mixed one", x.fire(20, 0), 1);
        e.due("the others can be read", x.fire(20, 1), 2);
        of("the least to pour so that a pan can be read no more;");
        e.due("spoil", x.spoil(1), 3);
        x.uses(1, 2);
        e.due("2 are too few", x.pan(1, 4), 1);
        x.undo();
        x.uses(1, 3);
        e.due("3 are enough", x.pan(1, 4), 0);
        x.undo();
        of("what a mixed taste was made of;");
        e.due("taste", x.pan(0, 5), 92);
        e.due("ways", x.mix(24, 92, 0), 2);
        e.due("20 of PAN 0, 4 of PAN 1", x.mix(24, 92, 1), 120);
        of("who stole, from the levels;");
        x.levels(2, 1, 2);
        x.levels(0, 0, 24);
        e.due("one way", x.theft(0), 1);
        e.due("2 of PAN 1", x.theft(1), 102);
        e.due("bits", x.theft(2), 2);
    }

    private void last(RainShelves x) {
        of("how few shelves will do, hail by itself;");
        e.due("24 and 6, hail", x.shelves(), 2);
        of("the odds of frosts;");
        e.due("upper", x.odds(3, 1, 0), 91);
        e.due("lower", x.odds(3, 1, 1), 100);
        of("the wettest year,");
        e.due("wettest", x.now(4), 3);
        of("what is lost;");
        e.due("nothing yet", x.now(1), 0);
        x.spring();
        e.due("what shrank", x.now(1), 3);
        of("pans by kinds;");
        int[] rates = {22, 24, 19, 48, 19, 23};
        for (int kind = 0; kind < 6; kind++) e.due("kind " + kind, x.rate(kind, 0), rates[kind]);
        of("images.");
        e.due("kept", x.keep(1), 1);
        x.spring();
        x.splits(0);
        e.due("back", x.back(1), 1);
        e.due("what was there", x.pan(0, 3), 22);
        e.due("what was lost", x.now(1), 3);
    }

    private static List<Both> eachCall() {
        List<Both> all = new ArrayList<>();
        all.add(new Both("type", x -> x.type('l'), m -> m.type('l')));
        all.add(new Both("clear", x -> x.clear(), m -> m.clear()));
        all.add(new Both("house", x -> x.house(), m -> m.house()));
        all.add(new Both("pan", x -> x.pan(0, 5), m -> m.pan(0, 5)));
        all.add(new Both("holds", x -> x.holds(0, 1), m -> m.holds(0, 1)));
        all.add(new Both("now", x -> x.now(1), m -> m.now(1)));
        all.add(new Both("uses", x -> x.uses(0, 3), m -> m.uses(0, 3)));
        all.add(new Both("pours", x -> x.pours(0, 2, 3), m -> m.pours(0, 2, 3)));
        all.add(new Both("spring", x -> x.spring(), m -> m.spring()));
        all.add(new Both("splits", x -> x.splits(0), m -> m.splits(0)));
        all.add(new Both("undo", x -> x.undo(), m -> m.undo()));
        all.add(new Both("lasts", x -> x.lasts(2), m -> m.lasts(2)));
        all.add(new Both("inSprings", x -> x.inSprings(2, 0), m -> m.inSprings(2, 0)));
        all.add(new Both("fire", x -> x.fire(9, 0), m -> m.fire(9, 0)));
        all.add(new Both("spoil", x -> x.spoil(2), m -> m.spoil(2)));
        all.add(new Both("mix", x -> x.mix(24, 92, 1), m -> m.mix(24, 92, 1)));
        all.add(new Both("levels", x -> x.levels(1, 2, 3), m -> m.levels(1, 2, 3)));
        all.add(new Both("forget", x -> x.forget(), m -> m.forget()));
        all.add(new Both("theft", x -> x.theft(0), m -> m.theft(0)));
        all.add(new Both("shelves", x -> x.shelves(), m -> m.shelves()));
        all.add(new Both("beside", x -> x.beside(0), m -> m.beside(0)));
        all.add(new Both("odds", x -> x.odds(3, 1, 1), m -> m.odds(3, 1, 1)));
        all.add(new Both("rate", x -> x.rate(3, 0), m -> m.rate(3, 0)));
        all.add(new Both("keep", x -> x.keep(0), m -> m.keep(0)));
        all.add(new Both("back", x -> x.back(0), m -> m.back(0)));
        all.add(new Both("count", x -> x.count(3), m -> m.count(3)));
        all.add(new Both("trace", x -> x.trace(), m -> m.trace()));
        return all;
    }

    /** All calls but the last one; back() comes so often that there is always rain. */
    private static List<Both> filling() {
        List<Both> all = new ArrayList<>();
        for (char c : TEXT.toCharArray()) all.add(new Both("type", x -> x.type(c), m -> m.type(c)));
        all.add(new Both("house", x -> x.house(), m -> m.house()));
        all.add(new Both("keep", x -> x.keep(0), m -> m.keep(0)));
        all.add(new Both("levels", x -> x.levels(1, 2, 3), m -> m.levels(1, 2, 3)));
        for (int n = all.size(); n < MOST_CALLS - 1; n++) {
            int a = n % 3, spoons = 1 + n % 4;
            switch (n % 7) {
                case 0: all.add(new Both("back", x -> x.back(0), m -> m.back(0))); break;
                case 1: all.add(new Both("spring", x -> x.spring(), m -> m.spring())); break;
                case 2: all.add(new Both("rate", x -> x.rate(4, a), m -> m.rate(4, a))); break;
                case 3: all.add(new Both("uses", x -> x.uses(a, spoons), m -> m.uses(a, spoons))); break;
                default: all.add(new Both("pours", x -> x.pours(a, (a + 1) % 3, spoons), m -> m.pours(a, (a + 1) % 3, spoons)));
            }
        }
        return all;
    }

    private void calls() {
        of("An object is used for at most 512 calls after it has been made;");
        List<Both> filling = filling();
        for (Both last : eachCall()) {
            RainShelves x = new RainShelves();
            Model m = new Model();
            for (int n = 0; n < filling.size(); n++) {
                Both call = filling.get(n);
                e.due(call.name + " as call " + (n + 1), call.on.applyAsLong(x), call.due.applyAsLong(m));
            }
            e.due(last.name + " as call " + (filling.size() + 1), last.on.applyAsLong(x), last.due.applyAsLong(m));
        }
        e.due("calls ahead of the last one", filling.size(), MOST_CALLS - 1);
    }

    /** What they answer is free; that they answer at all is LANGUAGE.md's rule 7. */
    private void laterCalls() {
        of("what later calls answer is free.");
        RainShelves x = new RainShelves();
        List<Both> calls = eachCall();
        int answered = 0;
        for (int n = 0; n < 4 * MOST_CALLS; n++) {
            if (n % 200 == 0) Check.tell(x, TEXT);
            calls.get(n % calls.size()).on.applyAsLong(x);
            answered++;
        }
        e.due("calls that were answered", answered, 4 * MOST_CALLS);
    }
}

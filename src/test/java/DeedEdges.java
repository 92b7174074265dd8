import java.util.ArrayDeque;
import java.util.Deque;

/** The second part of 'Terms': what is taken, used, poured, split, lost, read and undone. */
final class DeedEdges {
    private final Edges e;

    DeedEdges(Edges edges) {
        e = edges;
    }

    void run() {
        ownAlone();
        oldestFirst();
        likeYears();
        allIfNoMore();
        springs();
        used();
        poured();
        springGoesBy();
        split();
        lost();
        read();
        undone();
        tenAreKnown();
        ringOfDeeds();
    }

    private void ownAlone() {
        e.of(Edges.DEEDS, "A PAN holds SPOONS of the rain of each PAN (its own alone at first).");
        RainShelves x = Check.shelves("p5 1 0 0;p5 2 0 0;p5 3 0 0;p5 4 0 0;p5 5 0 0;p5 60 0 0;p5 0 0 0;");
        int[] told = {1, 2, 3, 4, 5, 60, 0};
        for (int p = 0; p < 7; p++) {
            for (int of = 0; of < 7; of++) {
                e.due("at first " + p + " of " + of, x.holds(p, of), p == of ? told[p] : 0);
            }
        }
        for (int p = 0; p < 6; p++) x.pours(p, 6, 1);
        for (int of = 0; of < 6; of++) e.due("pan 6 of " + of, x.holds(6, of), 1);
        e.due("pan 6 of its own", x.holds(6, 6), 0);
    }

    private void oldestFirst() {
        e.of(Edges.DEEDS, "TAKEN from a PAN are SPOONS of the oldest rain in it ahead of younger (by YEARS, the lesser is the older;");
        RainShelves x = Check.shelves("p99 10 0 0;p0 10 0 0;p50 10 0 0;p49 10 0 0;p51 10 0 0;");
        x.pours(0, 3, 10);
        x.pours(1, 3, 10);
        x.pours(2, 3, 10);
        x.pours(4, 3, 10);
        int[] byAge = {1, 3, 2, 4, 0};
        for (int of : byAge) {
            e.due("nine", x.uses(3, 9), 9);
            e.due("one is left of " + of, x.holds(3, of), 1);
            e.due("nothing else is touched", x.pan(3, 3) % 10, 1);
            e.due("the last one", x.uses(3, 1), 1);
            e.due("none is left of " + of, x.holds(3, of), 0);
        }
        RainShelves y = Check.shelves("p99 10 0 0;p0 10 0 0;p50 10 0 0;");
        y.pours(0, 1, 10);
        y.pours(2, 1, 10);
        e.due("over a border", y.uses(1, 11), 11);
        e.due("all of YEAR 0", y.holds(1, 1), 0);
        e.due("one of YEAR 50", y.holds(1, 2), 9);
        e.due("none of YEAR 99", y.holds(1, 0), 10);
    }

    private void likeYears() {
        e.of(Edges.DEEDS, "of like YEARS that of the lowest PAN):");
        RainShelves x = Check.shelves("p7 2 0 0;p7 2 0 0;p7 2 0 0;p7 2 0 0;p7 2 0 0;p7 2 0 0;p7 2 0 0;");
        for (int p = 6; p >= 0; p--) {
            if (p != 3) x.pours(p, 3, 2);
        }
        for (int of = 0; of < 7; of++) {
            x.uses(3, 1);
            e.due("one of " + of, x.holds(3, of), 1);
            x.uses(3, 1);
            e.due("both of " + of, x.holds(3, of), 0);
            e.due("the higher ones stay", x.pan(3, 3), 12 - 2 * of);
        }
    }

    private void allIfNoMore() {
        e.of(Edges.DEEDS, "n of them, all if it has no more.");
        int[] asked = {9, 10, 11, 99};
        for (int n : asked) {
            RainShelves x = Check.shelves("p1 10 0 0;p1 0 0 0;");
            int due = Math.min(n, 10);
            e.due("uses " + n, x.uses(0, n), due);
            e.due("uses " + n + ": left", x.pan(0, 3), 10 - due);
            e.due("uses " + n + ": lost", x.now(1), due);
            x.undo();
            e.due("pours " + n, x.pours(0, 1, n), due);
            e.due("pours " + n + ": left", x.pan(0, 3), 10 - due);
            e.due("pours " + n + ": come", x.pan(1, 3), due);
        }
    }

    private void springs() {
        e.of(Edges.DEEDS, "THE SPRING (0 at first; 999 at most).");
        RainShelves x = new RainShelves();
        e.due("at first", x.now(0), 0);
        for (int n = 1; n <= 509; n++) x.spring();
        e.due("the 511th call", x.now(0), 509);
        e.due("the 512th call", x.spring(), 0);
        // Nothing is promised behind 512 calls; SPRING 999 can be seen nowhere else.
        for (int n = 511; n <= 998; n++) x.spring();
        e.due("SPRING 998", x.now(0), 998);
        e.due("to SPRING 999", x.spring(), 0);
        e.due("SPRING 999", x.now(0), 999);
        e.due("not beyond", x.spring(), RainShelves.STATE);
        e.due("SPRING 999 still", x.now(0), 999);
        e.due("nothing of it is known", x.undo(), 9);
        e.due("SPRING 998 again", x.now(0), 998);
    }

    /** Pan 0 has 120 spoons: 60 of YEAR 1, its own, and 60 of YEAR 2. */
    private static RainShelves fullPan() {
        RainShelves x = Check.shelves("p1 60 0 0;p2 60 0 0;p3 0 0 0;");
        x.pours(1, 0, 60);
        return x;
    }

    private void used() {
        e.of(Edges.DEEDS, "USED: n (1 .. 99) SPOONS are TAKEN from a PAN, and gone.");
        RainShelves x = fullPan();
        e.bad("uses", 1, 99, n -> x.uses(0, n));
        e.due("uses 1", x.uses(0, 1), 1);
        e.due("gone", x.now(1), 1);
        e.due("119 there", x.now(2), 119);
        e.due("uses 99", x.uses(0, 99), 99);
        e.due("own rain is gone", x.holds(0, 0), 0);
        e.due("20 of the other", x.holds(0, 1), 20);
        e.due("100 gone", x.now(1), 100);
        e.due("nowhere else", x.now(2), 20);
    }

    private void poured() {
        e.of(Edges.DEEDS, "POURED: n (1 .. 99) SPOONS are TAKEN from a PAN, and come into another one, each as what it is.");
        RainShelves x = fullPan();
        e.bad("pours", 1, 99, n -> x.pours(0, 2, n));
        e.due("pours 1", x.pours(0, 2, 1), 1);
        e.due("pours 99", x.pours(0, 2, 99), 99);
        e.due("60 of pan 0", x.holds(2, 0), 60);
        e.due("40 of pan 1", x.holds(2, 1), 40);
        e.due("none of its own", x.holds(2, 2), 0);
        e.due("20 of pan 1 are left", x.holds(0, 1), 20);
        e.due("nothing is lost", x.now(1), 0);
        e.due("all is there", x.now(2), 120);
        RainShelves y = Check.shelves("p1 60 0 0;p1 60 0 0;p1 60 0 0;p1 60 0 0;p1 60 0 0;p1 60 0 0;p1 60 0 0;");
        for (int p = 0; p < 6; p++) y.pours(p, 6, 60);
        e.due("all rain in one pan", y.pan(6, 3), 420);
    }

    private void springGoesBy() {
        e.of(Edges.DEEDS, "A SPRING goes by: of each PAN, by numbers, as many SPOONS as it SHRINKS are TAKEN, and gone.");
        RainShelves x = Check.shelves("p1 10 9 0;p1 9 9 0;p1 8 9 0;p1 0 9 0;p1 5 0 0;p1 3 1 0;p1 60 2 0;");
        e.due("spring", x.spring(), 9 + 9 + 8 + 0 + 0 + 1 + 2);
        int[] left = {1, 0, 0, 0, 5, 2, 58};
        for (int p = 0; p < 7; p++) e.due("left in " + p, x.pan(p, 3), left[p]);
        e.due("gone", x.now(1), 29);
        e.due("the second", x.spring(), 1 + 1 + 2);
        e.due("the third", x.spring(), 1 + 2);
        e.due("the fourth", x.spring(), 2);
        e.due("four", x.now(0), 4);
        RainShelves y = Check.shelves("p5 10 3 0;p4 10 0 0;p5 2 9 0;");
        y.pours(1, 0, 2);
        y.pours(1, 2, 8);
        e.due("the oldest", y.spring(), 3 + 9);
        e.due("both of pan 1 in pan 0", y.holds(0, 1), 0);
        e.due("one of its own in pan 0", y.holds(0, 0), 9);
        e.due("all of pan 1 in pan 2", y.holds(2, 1), 0);
        e.due("one of its own in pan 2", y.holds(2, 2), 1);
        e.due("none for an empty house", new RainShelves().spring(), 0);
    }

    private void split() {
        e.of(Edges.DEEDS, "SPLIT: all of a PAN is gone.");
        RainShelves x = fullPan();
        e.due("more than 99", x.splits(0), 120);
        e.due("of its own", x.holds(0, 0), 0);
        e.due("of the other", x.holds(0, 1), 0);
        e.due("gone", x.now(1), 120);
        e.due("nothing is left", x.now(2), 0);
        RainShelves y = Check.shelves("p1 1 0 0;p1 60 0 0;p1 60 0 0;p1 60 0 0;p1 60 0 0;p1 60 0 0;p1 60 0 0;");
        e.due("one spoon", y.splits(0), 1);
        for (int p = 2; p < 7; p++) y.pours(p, 1, 99);
        e.due("as much as can be", y.splits(1), 360);
        e.due("all", y.now(1), 361);
    }

    private void lost() {
        e.of(Edges.DEEDS, "LOST: SPOONS that are gone, all of them (0 at first).");
        RainShelves x = Check.shelves("p1 30 2 0;p2 30 3 0;");
        e.due("at first", x.now(1), 0);
        x.pours(0, 1, 9);
        e.due("poured ones are not", x.now(1), 0);
        x.uses(0, 4);
        e.due("used ones", x.now(1), 4);
        x.spring();
        e.due("shrunk ones", x.now(1), 9);
        x.splits(1);
        e.due("split ones", x.now(1), 45);
        e.due("no more than there were", x.now(1) + x.now(2), 60);
        x.splits(0);
        e.due("all of them", x.now(1), 60);
        x.spring();
        e.due("nothing more can be", x.now(1), 60);
    }

    private void read() {
        e.of(Edges.DEEDS, "READ: a PAN can be, if it holds LEAST of its own rain at least, and nothing of any other one.");
        RainShelves x = Check.shelves("p3 6 0 0;p3 60 0 0;p4 4 0 0;p4 0 0 0;");
        e.due("6 of 5", x.pan(0, 4), 1);
        x.uses(0, 1);
        e.due("5 of 5", x.pan(0, 4), 1);
        x.uses(0, 1);
        e.due("4 of 5", x.pan(0, 4), 0);
        x.pours(1, 0, 9);
        e.due("enough, of another one of the same YEAR", x.pan(0, 4), 0);
        x.pours(1, 3, 20);
        e.due("enough, all of another one", x.pan(3, 4), 0);
        e.due("where it comes from", x.pan(1, 4), 1);
        x.pours(2, 1, 1);
        e.due("one spoon of another one", x.pan(1, 4), 0);
        x.undo();
        x.pours(3, 1, 20);
        e.due("its own came back", x.pan(1, 4), 1);
        e.due("an empty one", x.pan(3, 4), 0);
        RainShelves y = Check.shelves("p3 1 0 0;p3 0 0 0;l1;");
        e.due("one of LEAST 1", y.pan(0, 4), 1);
        e.due("none of LEAST 1", y.pan(1, 4), 0);
    }

    private void undone() {
        e.of(Edges.DEEDS, "UNDONE: the latest uses(), pours(), spring(), splits() that was not refused");
        Edges.Call[] deeds = {x -> x.uses(0, 3), x -> x.pours(0, 1, 3), x -> x.spring(), x -> x.splits(0)};
        Edges.Call[] refused = {x -> x.uses(2, 3), x -> x.uses(0, 100), x -> x.pours(2, 0, 1), x -> x.pours(0, 0, 1),
            x -> x.splits(2), x -> x.splits(3), x -> x.back(1), x -> x.house(), x -> x.type(256)};
        for (int i = 0; i < deeds.length; i++) {
            RainShelves x = Check.shelves("p3 30 2 0;p3 20 1 0;p9 0 0 0;");
            x.uses(1, 1);
            deeds[i].on(x);
            x.type('x');
            for (Edges.Call call : refused) e.due("refused", call.on(x) < 0 ? 1 : 0, 1);
            e.due("deed " + i + ": two are known", x.now(5), 2);
            e.due("deed " + i + " is undone, one more may be", x.undo(), 1);
            e.due("deed " + i + ": pan 0", x.holds(0, 0), 30);
            e.due("deed " + i + ": pan 1", x.holds(1, 1), 19);
            e.due("deed " + i + ": pan 1 of 0", x.holds(1, 0), 0);
            e.due("deed " + i + ": lost", x.now(1), 1);
            e.due("deed " + i + ": spring", x.now(0), 0);
        }
    }

    private void tenAreKnown() {
        e.of(Edges.DEEDS, "(10 are known, older ones are lost).");
        for (int deeds = 9; deeds <= 12; deeds++) {
            RainShelves x = Check.shelves("p3 60 0 0;");
            for (int n = 0; n < deeds; n++) x.uses(0, 1);
            int known = Math.min(deeds, 10);
            e.due(deeds + " deeds: known", x.now(5), known);
            for (int n = known - 1; n >= 0; n--) e.due(deeds + " deeds: undo", x.undo(), n);
            e.due(deeds + " deeds: no more", x.undo(), RainShelves.STATE);
            e.due(deeds + " deeds: as far back", x.pan(0, 3), 60 - deeds + known);
            e.due(deeds + " deeds: none known", x.now(5), 0);
        }
    }

    /** Deeds and undos in turns, so that what is known goes round more than once. */
    private void ringOfDeeds() {
        e.of(Edges.DEEDS, "older ones are lost");
        RainShelves x = Check.shelves("p3 60 0 0;p4 60 0 0;");
        Deque<Integer> known = new ArrayDeque<>();
        int[] turns = {3, -2, 11, -1, 4, -10, 1, -1, 12, -5, 7, -3, 2, -9, 1, -1};
        for (int turn : turns) {
            for (int n = 0; n < turn; n++) {
                known.addLast(x.pan(0, 3));
                if (known.size() > 10) known.removeFirst();
                e.due("deed", x.uses(0, 1), 1);
            }
            for (int n = 0; n < -turn; n++) {
                int left = known.size() - 1;
                e.due("undo", x.undo(), left < 0 ? RainShelves.STATE : left);
                if (left >= 0) e.due("as it was", x.pan(0, 3), known.removeLast());
            }
            e.due("known", x.now(5), known.size());
        }
    }
}

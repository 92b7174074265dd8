/** The fourth part of 'Terms' (kinds, images) and the constants. */
final class KindEdges {
    private static final String SIXTIES = "p0 60 0 0;p0 60 0 0;p0 60 0 0;p0 60 0 0;p0 60 0 0;p0 60 0 0;p99 60 9 2;";

    private final Edges e;

    KindEdges(Edges edges) {
        e = edges;
    }

    void run() {
        kinds();
        rate();
        pan();
        saucer();
        bottle();
        font();
        phial();
        urn();
        images();
        nothingElse();
        readAnew();
        constants();
    }

    /** What rate() answers, and what it adds to the trace. */
    private void rated(RainShelves x, int kind, int p, int rate, int traced) {
        long before = x.trace();
        e.due("kind " + kind + " of " + p, x.rate(kind, p), rate);
        e.due("kind " + kind + " of " + p + ": trace", x.trace() - before, traced);
    }

    /** Pan 6 holds 420 spoons, all others none. */
    private static RainShelves allInOne() {
        RainShelves x = Check.shelves(SIXTIES);
        for (int p = 0; p < 6; p++) x.pours(p, 6, 60);
        return x;
    }

    private void kinds() {
        e.of(Edges.KINDS, "KINDS of PANS are over one another: 0 PAN; 1 SAUCER, 2 BOTTLE, 5 URN (each under PAN); 3 FONT (under SAUCER); 4 PHIAL (under BOTTLE).");
        RainShelves x = Check.shelves("p3 20 4 0;p3 20 4 0;");
        x.spring();
        int[] rates = {16, 20, 13, 40, 14, 17};
        for (int kind = 0; kind < 6; kind++) e.due("kind " + kind, x.rate(kind, 1), rates[kind]);
        for (int kind : Edges.outside(0, 5)) e.due("kind " + kind, x.rate(kind, 1), RainShelves.NO);
    }

    private void rate() {
        e.of(Edges.KINDS, "RATE of a PAN as if of a KIND (numbers in brackets are added to THE TRACE, 0 at first, as often as rate() asks that body: each once; \"up\" is what the KIND above does):");
        RainShelves x = Check.shelves("p3 20 4 0;");
        e.due("at first", x.trace(), 0);
        int[] bodies = {1, 11, 101, 1011, 10101, 100001};
        for (int kind = 0; kind < 6; kind++) {
            long before = x.trace();
            x.rate(kind, 0);
            e.due("bodies of kind " + kind, x.trace() - before, bodies[kind]);
            x.rate(kind, 0);
            e.due("bodies of kind " + kind + " again", x.trace() - before, 2 * bodies[kind]);
        }
        long before = x.trace();
        x.rate(6, 0);
        x.rate(-1, 0);
        x.rate(0, 1);
        x.rate(3, -1);
        e.due("refused ones ask no body", x.trace(), before);
        RainShelves y = Check.shelves("p3 20 4 0;");
        for (int n = 0; n < 490; n++) y.rate(5, 0);
        e.due("many", y.trace(), 49000490L);
    }

    private void pan() {
        e.of(Edges.KINDS, "PAN how many SPOONS it holds (1).");
        RainShelves x = allInOne();
        rated(x, 0, 6, 420, 1);
        rated(x, 0, 0, 0, 1);
    }

    private void saucer() {
        e.of(Edges.KINDS, "SAUCER up, and how much it SHRINKS (10).");
        RainShelves x = allInOne();
        rated(x, 1, 6, 429, 11);
        rated(x, 1, 0, 0, 11);
        x.splits(6);
        rated(x, 1, 6, 9, 11);
    }

    private void bottle() {
        e.of(Edges.KINDS, "BOTTLE up less its YEAR (100).");
        RainShelves x = allInOne();
        rated(x, 2, 6, 321, 101);
        rated(x, 2, 0, 0, 101);
        x.splits(6);
        rated(x, 2, 6, -99, 101);
    }

    private void font() {
        e.of(Edges.KINDS, "FONT twice up (1000).");
        RainShelves x = allInOne();
        rated(x, 3, 6, 858, 1011);
        rated(x, 3, 0, 0, 1011);
    }

    private void phial() {
        e.of(Edges.KINDS, "PHIAL up, and its number (10000).");
        RainShelves x = allInOne();
        rated(x, 4, 6, 327, 10101);
        rated(x, 4, 0, 0, 10101);
        rated(x, 4, 5, 5, 10101);
        x.splits(6);
        rated(x, 4, 6, -93, 10101);
        RainShelves y = Check.shelves("p99 0 0 0;");
        rated(y, 4, 0, -99, 10101);
    }

    private void urn() {
        e.of(Edges.KINDS, "URN up, and THE SPRING (100000).");
        RainShelves x = allInOne();
        rated(x, 5, 6, 420, 100001);
        x.spring();
        rated(x, 5, 6, 412, 100001);
        rated(x, 5, 0, 1, 100001);
        x.undo();
        rated(x, 5, 0, 0, 100001);
        RainShelves y = Check.shelves("p0 0 0 0;");
        for (int n = 0; n < 400; n++) y.spring();
        rated(y, 5, 0, 400, 100001);
    }

    private void images() {
        e.of(Edges.KINDS, "IMAGES 0, 1 keep NOW (what PANS hold, THE SPRING, LOST);");
        RainShelves x = Check.shelves("p5 30 2 0;p3 12 1 1;");
        e.due("image 0", x.keep(0), 0);
        x.spring();
        x.pours(1, 0, 5);
        x.uses(0, 7);
        e.due("image 1", x.keep(1), 1);
        x.splits(0);
        x.spring();
        e.due("back to 1", x.back(1), 1);
        e.due("1: pan 0 of its own", x.holds(0, 0), 26);
        e.due("1: pan 0 of pan 1", x.holds(0, 1), 0);
        e.due("1: pan 1", x.holds(1, 1), 6);
        e.due("1: THE SPRING", x.now(0), 1);
        e.due("1: LOST", x.now(1), 10);
        e.due("back to 0", x.back(0), 0);
        e.due("0: pan 0", x.holds(0, 0), 30);
        e.due("0: pan 1", x.holds(1, 1), 12);
        e.due("0: THE SPRING", x.now(0), 0);
        e.due("0: LOST", x.now(1), 0);
        x.uses(0, 9);
        e.due("an image can be used again", x.back(0), 0);
        e.due("what is done does not change an image", x.pan(0, 3), 30);
        e.due("kept anew", x.back(1), 1);
        x.keep(0);
        x.spring();
        e.due("the newer one is there", x.back(0), 1);
        e.due("the newer one's rain", x.pan(0, 3), 26);
        e.bad("keep", 0, 1, n -> x.keep(n));
        e.bad("back", 0, 1, n -> x.back(n));
    }

    private void nothingElse() {
        e.of(Edges.KINDS, "nothing else (nothing can be UNDONE behind back()).");
        RainShelves x = Check.shelves("p5 30 2 0;p3 12 1 1;l7;s70;");
        x.uses(0, 1);
        x.uses(0, 1);
        e.due("keep", x.keep(0), 0);
        e.due("keep leaves what may be undone", x.now(5), 2);
        e.due("undo behind keep", x.undo(), 1);
        x.uses(0, 3);
        x.levels(0, 0, 3);
        x.levels(0, 1, 3);
        x.rate(0, 0);
        Check.type(x, "l9;");
        e.due("back", x.back(0), 0);
        e.due("none may be undone", x.now(5), 0);
        e.due("nothing is undone", x.undo(), RainShelves.STATE);
        e.due("rain is that of the image", x.pan(0, 3), 28);
        e.due("LEVELS are not kept", x.count(3), 2);
        e.due("THE TRACE is not kept", x.trace(), 1);
        e.due("THE TEXT is not kept", x.count(4), 3);
        e.due("LEAST is not kept", x.count(1), 7);
        x.uses(0, 4);
        e.due("a deed behind back() may be undone", x.undo(), 0);
        e.due("that alone", x.undo(), RainShelves.STATE);
        e.due("rain is as behind back()", x.pan(0, 3), 28);
        for (int n = 0; n < 12; n++) x.uses(0, 1);
        x.back(0);
        e.due("ten were known, none is", x.undo(), RainShelves.STATE);
    }

    private void readAnew() {
        e.of(Edges.KINDS, "(Read anew: as told, SPRING 0, nothing LOST, no LEVELS, IMAGES are gone.)");
        RainShelves x = Check.shelves("p5 30 2 0;p3 12 1 1;l7;s70;");
        x.keep(0);
        x.pours(0, 1, 5);
        x.spring();
        x.keep(1);
        for (int n = 0; n < 5; n++) x.levels(0, 0, n);
        e.due("the same again", Check.tell(x, "p5 30 2 0;p3 12 1 1;"), 2);
        e.due("as told: pan 0", x.holds(0, 0), 30);
        e.due("as told: pan 1", x.holds(1, 1), 12);
        e.due("as told: nothing of others", x.holds(1, 0), 0);
        e.due("LEAST is not told", x.count(1), 5);
        e.due("SHELF is not told", x.count(2), 60);
        e.due("SPRING 0", x.now(0), 0);
        e.due("nothing LOST", x.now(1), 0);
        e.due("no LEVELS", x.count(3), 0);
        e.due("image 0 is gone", x.back(0), RainShelves.STATE);
        e.due("image 1 is gone", x.back(1), RainShelves.STATE);
        e.due("nothing of it is undone", x.undo(), RainShelves.STATE);
        e.due("LEVELS may be told again", x.levels(0, 0, 3), 1);
        x.keep(1);
        e.due("an empty text tells, too", x.house(), 0);
        e.due("no pans", x.count(0), 0);
        e.due("no rain", x.now(2), 0);
        e.due("no LEVELS again", x.forget(), 0);
        e.due("image 1 is gone again", x.back(1), RainShelves.STATE);
    }

    private void constants() {
        e.of(Edges.CONSTANTS, "`NO = -1000000`: What none is, where a number may be below 0.");
        e.due("NO", RainShelves.NO, -1000000);
        e.due("no such PAN", new RainShelves().rate(0, 0), -1000000);
        RainShelves x = Check.shelves("p99 0 0 0;p10 9 0 0;p11 9 0 0;p12 9 0 0;");
        // A rate may be what elsewhere is BAD, STATE, FULL.
        e.due("-99 is a rate", x.rate(2, 0), -99);
        e.due("-1 is a rate", x.rate(2, 1), -1);
        e.due("-2 is a rate", x.rate(2, 2), -2);
        e.due("-3 is a rate", x.rate(2, 3), -3);
    }
}

/** What is refused changes nothing, and answers the first of BAD, STATE and FULL. */
final class RefusedEdges {
    private static final int BAD = RainShelves.BAD, STATE = RainShelves.STATE, FULL = RainShelves.FULL;

    private final Edges e;
    private final Twins twins;

    RefusedEdges(Edges edges) {
        e = edges;
        twins = new Twins(edges);
    }

    void run() {
        nothingChanges();
        theFirst();
        badNumbers();
        noSuchThing();
        states();
        fulls();
    }

    private void midway(String what, Edges.Call call, long want) {
        twins.unchanged(what, Twins::midway, call, want);
    }

    private void full(String what, Edges.Call call, long want) {
        twins.unchanged(what, Twins::full, call, want);
    }

    private void both(String what, Edges.Call call, long want) {
        midway(what, call, want);
        full(what, call, want);
    }

    private void nothingChanges() {
        e.of(Edges.REFUSED, "Refused, and nothing changes,");
        both("type", x -> x.type(256), BAD);
        both("pan", x -> x.pan(3, 0), BAD);
        both("holds", x -> x.holds(0, 3), BAD);
        both("now", x -> x.now(6), BAD);
        both("uses", x -> x.uses(0, 100), BAD);
        both("pours", x -> x.pours(0, 0, 1), BAD);
        both("splits", x -> x.splits(3), BAD);
        both("lasts", x -> x.lasts(3), BAD);
        both("inSprings", x -> x.inSprings(201, 0), BAD);
        both("fire", x -> x.fire(401, 0), BAD);
        both("spoil", x -> x.spoil(3), BAD);
        both("mix", x -> x.mix(61, 0, 0), BAD);
        both("levels", x -> x.levels(61, 0, 0), BAD);
        both("theft", x -> x.theft(3), BAD);
        both("beside", x -> x.beside(3), BAD);
        both("odds", x -> x.odds(11, 0, 0), BAD);
        both("rate", x -> x.rate(6, 0), RainShelves.NO);
        both("keep", x -> x.keep(2), BAD);
        both("back", x -> x.back(2), BAD);
        both("count", x -> x.count(5), BAD);
        midway("house of a text that is not ended", x -> x.house(), -10 - 6);
        twins.unchanged("undo of nothing", RefusedEdges::backAgain, x -> x.undo(), STATE);
    }

    private static RainShelves backAgain() {
        RainShelves x = Twins.midway();
        x.back(0);
        return x;
    }

    private void theFirst() {
        e.of(Edges.REFUSED, "the first of these:");
        midway("uses of an empty one, 0", x -> x.uses(2, 0), BAD);
        midway("uses of an empty one, 100", x -> x.uses(2, 100), BAD);
        midway("pours of an empty one into itself", x -> x.pours(2, 2, 1), BAD);
        midway("pours of an empty one into none", x -> x.pours(2, 3, 1), BAD);
        midway("pours of an empty one, 0", x -> x.pours(2, 0, 0), BAD);
        midway("pours of an empty one, 100", x -> x.pours(2, 0, 100), BAD);
        midway("back to no image", x -> x.back(-1), BAD);
        full("a letter 256 to a full text", x -> x.type(256), BAD);
        full("a letter -1 to a full text", x -> x.type(-1), BAD);
        full("a sixth level in 61", x -> x.levels(61, 0, 0), BAD);
        full("a sixth level of no pan", x -> x.levels(0, 2, 0), BAD);
        full("a sixth level of 421", x -> x.levels(0, 0, 421), BAD);
    }

    private void badNumbers() {
        e.of(Edges.REFUSED, "BAD (a number is not as told,");
        for (int n : Edges.outside(0, 255)) midway("type " + n, x -> x.type(n), BAD);
        for (int n : Edges.outside(1, 99)) midway("uses " + n, x -> x.uses(0, n), BAD);
        for (int n : Edges.outside(1, 99)) midway("pours " + n, x -> x.pours(0, 1, n), BAD);
        for (int n : Edges.outside(0, 60)) midway("levels in " + n, x -> x.levels(n, 0, 0), BAD);
        for (int n : Edges.outside(0, 420)) midway("levels of " + n, x -> x.levels(0, 0, n), BAD);
        for (int n : Edges.outside(0, 200)) midway("inSprings " + n, x -> x.inSprings(n, 0), BAD);
        for (int n : Edges.outside(1, 400)) midway("fire " + n, x -> x.fire(n, 0), BAD);
        for (int n : Edges.outside(1, 60)) midway("mix " + n, x -> x.mix(n, 9, 0), BAD);
        for (int n : Edges.outside(0, 5940)) midway("mix sum " + n, x -> x.mix(9, n, 0), BAD);
        for (int n : Edges.outside(0, 10)) midway("odds by " + n, x -> x.odds(n, 1, 0), BAD);
        for (int n : Edges.outside(0, 7)) midway("odds of " + n, x -> x.odds(1, n, 0), BAD);
        for (int n : Edges.outside(0, 6)) midway("pan, what " + n, x -> x.pan(0, n), BAD);
        for (int n : Edges.outside(0, 5)) midway("now " + n, x -> x.now(n), BAD);
        for (int n : Edges.outside(0, 1)) midway("fire, what " + n, x -> x.fire(1, n), BAD);
        for (int n : Edges.outside(0, 1)) midway("mix, what " + n, x -> x.mix(9, 9, n), BAD);
        for (int n : Edges.outside(0, 2)) midway("theft " + n, x -> x.theft(n), BAD);
        for (int n : Edges.outside(0, 1)) midway("odds, what " + n, x -> x.odds(1, 1, n), BAD);
        for (int n : Edges.outside(0, 4)) midway("count " + n, x -> x.count(n), BAD);
        for (int n : Edges.outside(0, 5)) midway("rate as " + n, x -> x.rate(n, 0), RainShelves.NO);
    }

    private void noSuchThing() {
        e.of(Edges.REFUSED, "or there is no such thing),");
        for (int p : Edges.outside(0, 2)) {
            midway("pan " + p, x -> x.pan(p, 0), BAD);
            midway("holds " + p, x -> x.holds(p, 0), BAD);
            midway("holds of " + p, x -> x.holds(0, p), BAD);
            midway("uses of " + p, x -> x.uses(p, 1), BAD);
            midway("pours from " + p, x -> x.pours(p, 0, 1), BAD);
            midway("pours to " + p, x -> x.pours(0, p, 1), BAD);
            midway("splits " + p, x -> x.splits(p), BAD);
            midway("lasts " + p, x -> x.lasts(p), BAD);
            midway("spoil " + p, x -> x.spoil(p), BAD);
            midway("levels of pan " + p, x -> x.levels(0, p, 0), BAD);
            midway("beside " + p, x -> x.beside(p), BAD);
            midway("rate of " + p, x -> x.rate(0, p), RainShelves.NO);
        }
        for (int p : Edges.outside(-1, 2)) midway("inSprings of " + p, x -> x.inSprings(0, p), BAD);
        for (int image : Edges.outside(0, 1)) {
            midway("keep " + image, x -> x.keep(image), BAD);
            midway("back " + image, x -> x.back(image), BAD);
        }
        for (int p = 0; p < 7; p++) noPan(p);
    }

    /** Without pans there is no pan at all: nothing is said of what it holds. */
    private void noPan(int p) {
        RainShelves x = new RainShelves();
        e.due("no pan " + p, x.pan(p, 3), BAD);
        e.due("holds: no pan " + p, x.holds(p, p), BAD);
        e.due("uses: no pan " + p, x.uses(p, 1), BAD);
        e.due("pours: no pan " + p, x.pours(p, p == 0 ? 1 : 0, 1), BAD);
        e.due("splits: no pan " + p, x.splits(p), BAD);
        e.due("lasts: no pan " + p, x.lasts(p), BAD);
        e.due("inSprings: no pan " + p, x.inSprings(0, p), BAD);
        e.due("spoil: no pan " + p, x.spoil(p), BAD);
        e.due("levels: no pan " + p, x.levels(0, p, 0), BAD);
        e.due("beside: no pan " + p, x.beside(p), BAD);
        e.due("rate: no pan " + p, x.rate(0, p), RainShelves.NO);
        Check.tell(x, "p1 9 0 0;p1 9 0 0;p1 9 0 0;p1 9 0 0;p1 9 0 0;p1 9 0 0;p1 9 0 0;");
        e.due("pan " + p, x.pan(p, 3), 9);
        Check.tell(x, "");
        e.due("no pan " + p + " any more", x.uses(p, 1), BAD);
    }

    private void states() {
        e.of(Edges.REFUSED, "STATE (as told),");
        midway("uses of an empty one", x -> x.uses(2, 1), STATE);
        midway("pours of an empty one", x -> x.pours(2, 0, 1), STATE);
        midway("splits of an empty one", x -> x.splits(2), STATE);
        midway("back to an image that was not kept", x -> x.back(1), STATE);
        full("uses of an empty one", x -> x.uses(1, 99), STATE);
        full("pours of an empty one", x -> x.pours(1, 0, 99), STATE);
        full("splits of an empty one", x -> x.splits(1), STATE);
        twins.unchanged("undo at first", RainShelves::new, x -> x.undo(), STATE);
        twins.unchanged("back at first", RainShelves::new, x -> x.back(0), STATE);
    }

    private void fulls() {
        e.of(Edges.REFUSED, "FULL.");
        full("a letter more", x -> x.type('p'), FULL);
        full("a letter 0 more", x -> x.type(0), FULL);
        full("a letter 255 more", x -> x.type(255), FULL);
        full("a sixth level", x -> x.levels(0, 0, 0), FULL);
        full("a sixth level, the greatest", x -> x.levels(60, 1, 420), FULL);
    }
}

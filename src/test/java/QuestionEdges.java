/** The third part of 'Terms': what is asked of things as they are now. */
final class QuestionEdges {
    private static final int NONE = RainShelves.NONE;
    /** Seven pans of 60 spoons, YEAR 1 .. 7. */
    private static final String SIXTIES = "p1 60 0 0;p2 60 0 0;p3 60 0 0;p4 60 0 0;p5 60 0 0;p6 60 0 0;p7 60 0 0;";

    private final Edges e;

    QuestionEdges(Edges edges) {
        e = edges;
    }

    void run() {
        nothingIsChanged();
        lasts();
        lastsForGood();
        inSprings();
        readInSprings();
        fireNumbers();
        fireSets();
        fireMostRead();
        fireLeastHeld();
        fireLeastBits();
        fireAnswers();
        spoil();
        mixSpoons();
        mixSums();
        mixWays();
        mixFirst();
        taste();
        levels();
        theftNumbers();
        theftHasAsMany();
        theftAllLevels();
        theftAnswers();
        shelvesOfAny();
        shelvesFull();
        shelvesOfHail();
        shelvesNone();
        beside();
        oddsNumbers();
        odds();
        wettest();
        where();
    }

    /** All rain of the seven pans in the last one. */
    private static RainShelves allInOne(String text) {
        RainShelves x = Check.shelves(text);
        for (int p = 0; p < 6; p++) x.pours(p, 6, 99);
        return x;
    }

    private void nothingIsChanged() {
        e.of(Edges.QUESTIONS, "(As things are NOW; nothing is changed.)");
        Twins twins = new Twins(e);
        Edges.Call all = x -> x.lasts(0) + x.inSprings(9, 0) + x.inSprings(200, -1) + x.fire(30, 0) + x.fire(3, 1)
            + x.spoil(0) + x.mix(9, 60, 0) + x.mix(9, 61, 1) + x.theft(0) + x.theft(1) + x.theft(2) + x.shelves()
            + x.beside(0) + x.beside(1) + x.odds(3, 1, 0) + x.odds(3, 1, 1) + x.pan(0, 5) + x.pan(0, 6) + x.now(4)
            + x.holds(0, 1) + x.count(0) + x.trace();
        twins.unchanged("questions midway", Twins::midway, all);
        twins.unchanged("questions, all full", Twins::full, all);
        RainShelves x = Check.shelves("p1 30 2 0;");
        e.due("as things are", x.lasts(0), 13);
        x.spring();
        e.due("as things are a SPRING later", x.lasts(0), 12);
        x.undo();
        e.due("as things are behind undo", x.lasts(0), 13);
    }

    private void lasts() {
        e.of(Edges.QUESTIONS, "LASTS: in how many SPRINGS (0 .. 400), nothing else being done, a PAN can not be READ first;");
        RainShelves x = Check.shelves("p1 60 1 0;p1 1 1 0;p1 0 1 0;p1 60 9 0;p1 10 9 0;p1 9 9 0;l1;");
        e.due("the longest", x.lasts(0), 60);
        e.due("the last spoon", x.lasts(1), 1);
        e.due("an empty one", x.lasts(2), 0);
        e.due("60 by 9", x.lasts(3), 7);
        e.due("10 by 9: one is left, then none", x.lasts(4), 2);
        e.due("9 by 9", x.lasts(5), 1);
        RainShelves y = Check.shelves("p1 5 1 0;p1 4 1 0;p1 14 9 0;p1 13 9 0;p2 60 1 0;p9 9 1 0;");
        e.due("LEAST just now", y.lasts(0), 1);
        e.due("too few now", y.lasts(1), 0);
        e.due("LEAST in one", y.lasts(2), 2);
        e.due("one too few in one", y.lasts(3), 1);
        y.pours(2, 5, 1);
        e.due("mixed now, though not for long", y.lasts(5), 0);
        e.due("and then it can be read, and the one of 60", y.inSprings(1, -1), 2);
        x.spring();
        e.due("from now", x.lasts(0), 59);
    }

    private void lastsForGood() {
        e.of(Edges.QUESTIONS, "NONE: it can be for good (400 of them).");
        RainShelves x = Check.shelves("p1 60 0 0;p1 5 0 0;p1 4 0 0;p1 0 0 0;");
        e.due("no shrinking", x.lasts(0), NONE);
        e.due("LEAST, no shrinking", x.lasts(1), NONE);
        e.due("too few, no shrinking", x.lasts(2), 0);
        e.due("empty, no shrinking", x.lasts(3), 0);
        x.pours(2, 0, 1);
        e.due("mixed, no shrinking", x.lasts(0), 0);
    }

    private void inSprings() {
        e.of(Edges.QUESTIONS, "IN n (0 .. 200) SPRINGS: how many SPOONS a PAN holds;");
        RainShelves x = allInOne(SIXTIES.replace("p7 60 0", "p7 60 1"));
        e.due("in 0", x.inSprings(0, 6), 420);
        e.due("in 1", x.inSprings(1, 6), 419);
        e.due("in 200", x.inSprings(200, 6), 220);
        e.due("an empty one in 200", x.inSprings(200, 0), 0);
        e.bad("in", 0, 200, n -> x.inSprings(n, 6));
        e.bad("in, all", 0, 200, n -> x.inSprings(n, -1));
        RainShelves y = allInOne(SIXTIES.replace("p7 60 0", "p7 60 9"));
        e.due("in 46 by 9", y.inSprings(46, 6), 6);
        e.due("in 47 by 9", y.inSprings(47, 6), 0);
        e.due("in 200 by 9", y.inSprings(200, 6), 0);
        RainShelves z = Check.shelves("p1 60 0 0;p1 18 9 0;");
        e.due("no shrinking in 200", z.inSprings(200, 0), 60);
        e.due("just gone", z.inSprings(2, 1), 0);
        e.due("not yet", z.inSprings(1, 1), 9);
    }

    private void readInSprings() {
        e.of(Edges.QUESTIONS, "how many PANS can be READ.");
        RainShelves x = Check.shelves("p1 5 1 0;p1 6 1 0;p1 60 0 0;p1 14 9 0;p1 4 0 0;");
        e.due("in 0", x.inSprings(0, -1), 4);
        e.due("in 1", x.inSprings(1, -1), 3);
        e.due("in 2", x.inSprings(2, -1), 1);
        e.due("in 200", x.inSprings(200, -1), 1);
        e.due("of no pans", new RainShelves().inSprings(200, -1), 0);
        RainShelves y = Check.shelves("p5 12 2 0;p4 9 0 0;p6 9 0 0;");
        y.pours(1, 0, 3);
        e.due("older rain in it", y.inSprings(1, -1), 2);
        e.due("the older rain is gone, one of its own, too", y.inSprings(2, -1), 3);
        e.due("5 of its own are left", y.inSprings(5, -1), 3);
        e.due("3 of its own are left", y.inSprings(6, -1), 2);
        y.undo();
        y.pours(2, 0, 3);
        e.due("younger rain in it: now", y.inSprings(0, -1), 2);
        e.due("younger rain in it: at last", y.inSprings(7, -1), 2);
        e.due("all seven", Check.shelves(SIXTIES).inSprings(200, -1), 7);
    }

    private void fireNumbers() {
        e.of(Edges.QUESTIONS, "FIRE of n (1 .. 400) SPOONS:");
        RainShelves x = Check.shelves(SIXTIES);
        e.due("1", x.fire(1, 0), 1);
        e.due("60", x.fire(60, 0), 1);
        e.due("61", x.fire(61, 0), 3);
        e.due("360", x.fire(360, 0), 63);
        e.due("361", x.fire(361, 0), 127);
        e.due("400", x.fire(400, 0), 127);
        e.bad("fire", 1, 400, n -> x.fire(n, 0));
        e.bad("fire, how many", 1, 400, n -> x.fire(n, 1));
    }

    private void fireSets() {
        e.of(Edges.QUESTIONS, "of all sets of PANS that hold n at least, together,");
        RainShelves x = Check.shelves("p1 30 0 0;p1 12 0 0;");
        e.due("just one's", x.fire(12, 0), 2);
        e.due("one more", x.fire(13, 0), 1);
        e.due("just the other's", x.fire(30, 0), 1);
        e.due("one more needs both", x.fire(31, 0), 3);
        e.due("just both", x.fire(42, 0), 3);
        e.due("more than both", x.fire(43, 0), NONE);
        x.pours(0, 1, 9);
        e.due("what is held, not what was told", x.fire(22, 0), 3);
        e.due("whoever's rain it is", x.fire(21, 0), 2);
    }

    private void fireMostRead() {
        e.of(Edges.QUESTIONS, "that by whose being SPLIT most PANS could still be READ,");
        RainShelves x = Check.shelves("p1 20 0 0;p1 4 0 0;p1 4 0 0;p1 10 0 0;");
        e.due("what can't be read", x.fire(8, 0), 6);
        e.due("what can't be read: how many", x.fire(8, 1), 2);
        e.due("one more", x.fire(9, 0), 8);
        e.due("one more: how many", x.fire(9, 1), 1);
        e.due("all", x.fire(38, 0), 15);
        e.due("all: how many", x.fire(38, 1), 0);
        RainShelves y = Check.shelves("p1 60 0 0;p1 6 0 0;p1 7 0 0;p2 20 0 0;");
        y.pours(3, 0, 1);
        e.due("a great mixed one rather than one that can be read", y.fire(6, 0), 1);
        e.due("that leaves three", y.fire(6, 1), 3);
        y.undo();
        e.due("one great one rather than two small ones", y.fire(8, 0), 8);
        e.due("rather than two", y.fire(21, 0), 1);
    }

    private void fireLeastHeld() {
        e.of(Edges.QUESTIONS, "of several that which holds least,");
        RainShelves x = Check.shelves("p1 9 0 0;p1 6 0 0;p1 7 0 0;");
        e.due("6", x.fire(6, 0), 2);
        e.due("7", x.fire(7, 0), 4);
        e.due("8", x.fire(8, 0), 1);
        e.due("10", x.fire(10, 0), 6);
        e.due("14", x.fire(14, 0), 3);
        e.due("16", x.fire(16, 0), 5);
        e.due("17", x.fire(17, 0), 7);
        RainShelves y = Check.shelves("p1 20 0 0;p1 4 0 0;p1 4 0 0;p1 10 0 0;");
        e.due("three of 18 rather than one of 20", y.fire(18, 0), 14);
        e.due("one of 20", y.fire(19, 0), 1);
    }

    private void fireLeastBits() {
        e.of(Edges.QUESTIONS, "of such the least bits:");
        RainShelves x = Check.shelves("p1 6 0 0;p1 6 0 0;p1 6 0 0;");
        e.due("one of three", x.fire(6, 0), 1);
        e.due("two of three", x.fire(7, 0), 3);
        RainShelves y = Check.shelves("p1 0 0 0;p1 6 0 0;p1 0 0 0;");
        e.due("no empty one with it", y.fire(1, 0), 2);
        RainShelves z = Check.shelves("p1 8 0 0;p1 4 0 0;p1 4 0 0;l9;");
        e.due("one bit rather than two", z.fire(8, 0), 1);
        RainShelves w = Check.shelves("p1 4 0 0;p1 4 0 0;p1 8 0 0;l9;");
        e.due("two low bits rather than one high bit", w.fire(8, 0), 3);
    }

    private void fireAnswers() {
        e.of(Edges.QUESTIONS, "which (bits); how many could be READ; NONE.");
        RainShelves x = Check.shelves("p1 0 0 0;");
        e.due("no rain", x.fire(1, 0), NONE);
        e.due("no rain: how many", x.fire(1, 1), NONE);
        e.due("no pans", new RainShelves().fire(1, 0), NONE);
        e.due("no pans: how many", new RainShelves().fire(1, 1), NONE);
        RainShelves y = Check.shelves("p1 1 0 0;");
        e.due("the last spoon", y.fire(1, 0), 1);
        e.due("the last spoon: how many", y.fire(1, 1), 0);
        e.due("one more", y.fire(2, 0), NONE);
        e.due("one more: how many", y.fire(2, 1), NONE);
        RainShelves z = Check.shelves(SIXTIES);
        e.due("six could be read", z.fire(60, 1), 6);
        e.due("none could be read", z.fire(400, 1), 0);
        z.splits(6);
        e.due("too much", z.fire(361, 0), NONE);
        e.due("all of it", z.fire(360, 0), 63);
    }

    private void spoil() {
        e.of(Edges.QUESTIONS, "SPOIL of a PAN: the fewest SPOONS to be USED of it so that it can not be READ (0: it can not; never more than it holds).");
        RainShelves x = Check.shelves("p1 5 0 0;p1 4 0 0;p1 0 0 0;p1 60 0 0;");
        e.due("LEAST", x.spoil(0), 1);
        e.due("too few", x.spoil(1), 0);
        e.due("empty", x.spoil(2), 0);
        e.due("60", x.spoil(3), 56);
        x.uses(3, 55);
        e.due("one less than told: can be read", x.pan(3, 4), 1);
        e.due("one more will do", x.spoil(3), 1);
        x.uses(3, 1);
        e.due("can't be read", x.pan(3, 4), 0);
        e.due("no more", x.spoil(3), 0);
        x.pours(1, 0, 1);
        e.due("mixed", x.spoil(0), 0);
        RainShelves y = Check.shelves("p1 60 0 0;p1 1 0 0;l1;");
        e.due("all that it holds", y.spoil(0), 60);
        e.due("its one spoon", y.spoil(1), 1);
        RainShelves z = Check.shelves("p1 60 0 0;p1 59 0 0;l60;");
        e.due("LEAST 60", z.spoil(0), 1);
        e.due("LEAST 60, 59", z.spoil(1), 0);
    }

    private void mixSpoons() {
        e.of(Edges.QUESTIONS, "MIX of t (1 .. 60) SPOONS,");
        RainShelves x = Check.shelves("p1 9 0 0;p0 9 0 0;");
        for (int s = 0; s <= 2; s++) e.due("1 can't be of two, " + s, x.mix(1, s, 0), 0);
        e.due("2", x.mix(2, 1, 1), 101);
        e.due("60, one of the first", x.mix(60, 1, 1), 101);
        e.due("60, one of the other", x.mix(60, 59, 1), 159);
        e.bad("mix", 1, 60, t -> x.mix(t, 1, 0));
        e.bad("mix, first", 1, 60, t -> x.mix(t, 1, 1));
    }

    private void mixSums() {
        e.of(Edges.QUESTIONS, "of a SUM s (0 .. 5940) of their YEARS:");
        RainShelves x = Check.shelves("p99 9 0 0;p0 9 0 0;p98 0 0 0;");
        e.due("0", x.mix(60, 0, 0), 0);
        e.due("5940", x.mix(60, 5940, 0), 0);
        e.due("5939", x.mix(60, 5939, 1), 259);
        e.due("5939: ways", x.mix(60, 5939, 0), 1);
        e.due("99", x.mix(60, 99, 1), 101);
        e.due("1", x.mix(2, 1, 0), 0);
        e.bad("sum", 0, 5940, s -> x.mix(60, s, 0));
        e.bad("sum, first", 0, 5940, s -> x.mix(60, s, 1));
    }

    private void mixWays() {
        e.of(Edges.QUESTIONS, "ways to make it of just two PANS' rains (of unlike YEARS, at least one SPOON of each, whatever there is):");
        RainShelves x = Check.shelves("p10 0 0 0;p20 0 0 0;p10 0 0 0;");
        e.due("all of YEAR 10", x.mix(3, 30, 0), 0);
        e.due("one of YEAR 20", x.mix(3, 40, 0), 2);
        e.due("two of YEAR 20", x.mix(3, 50, 0), 2);
        e.due("all of YEAR 20", x.mix(3, 60, 0), 0);
        e.due("between", x.mix(3, 45, 0), 0);
        e.due("too little", x.mix(3, 29, 0), 0);
        e.due("too much", x.mix(3, 61, 0), 0);
        // Three years would make it, two do not.
        RainShelves y = Check.shelves("p1 60 0 0;p10 60 0 0;p50 60 0 0;");
        e.due("of three", y.mix(3, 61, 0), 0);
        e.due("of like years", Check.shelves("p9 60 0 0;p9 60 0 0;").mix(2, 18, 0), 0);
        e.due("of one pan", Check.shelves("p9 60 0 0;").mix(2, 18, 0), 0);
        e.due("of no pan", new RainShelves().mix(2, 18, 0), 0);
        RainShelves z = Check.shelves("p1 1 0 0;p2 1 0 0;");
        e.due("more than there is", z.mix(60, 90, 1), 130);
        z.splits(0);
        z.splits(1);
        e.due("when there is nothing", z.mix(60, 90, 1), 130);
    }

    private void mixFirst() {
        e.of(Edges.QUESTIONS, "how many; the first (by the lesser PAN, the other one, SPOONS of the lesser): 1000 times the lesser PAN, 100 times the other one, and SPOONS of the lesser; NONE.");
        RainShelves x = Check.shelves("p10 0 0 0;p20 0 0 0;p10 0 0 0;");
        e.due("lesser pan 0", x.mix(3, 40, 1), 102);
        e.due("lesser pan 0 again", x.mix(3, 50, 1), 101);
        RainShelves y = Check.shelves("p5 0 0 0;p1 0 0 0;p1 0 0 0;");
        e.due("two ways", y.mix(2, 6, 0), 2);
        e.due("the other one is the lesser", y.mix(2, 6, 1), 101);
        RainShelves z = Check.shelves("p99 0 0 0;p99 0 0 0;p99 0 0 0;p99 0 0 0;p99 0 0 0;p1 0 0 0;p0 0 0 0;");
        e.due("the greatest", z.mix(60, 59, 1), 5659);
        e.due("the greatest: ways", z.mix(60, 59, 0), 1);
        e.due("most ways", z.mix(2, 99, 0), 5);
        e.due("most ways: the first", z.mix(2, 99, 1), 601);
        e.due("no way", z.mix(2, 0, 0), 0);
        e.due("no way: the first", z.mix(2, 0, 1), NONE);
        e.due("no pans", new RainShelves().mix(2, 1, 1), NONE);
    }

    private void taste() {
        e.of(Edges.QUESTIONS, "TASTE of a PAN: the SUM of YEARS of all SPOONS in it.");
        String old = "p99 60 0 0;";
        RainShelves x = allInOne(old + old + old + old + old + old + old);
        e.due("the greatest", x.pan(6, 5), 41580);
        e.due("an empty one", x.pan(0, 5), 0);
        RainShelves y = Check.shelves("p0 60 0 0;p7 3 0 0;p2 1 0 0;");
        e.due("YEAR 0", y.pan(0, 5), 0);
        y.pours(1, 0, 3);
        y.pours(2, 0, 1);
        e.due("mixed", y.pan(0, 5), 23);
        y.uses(0, 61);
        e.due("the oldest are gone, and YEAR 2", y.pan(0, 5), 21);
    }

    private void levels() {
        e.of(Edges.QUESTIONS, "LEVELS (5 at most): in k (0 .. 60) SPRINGS from NOW a PAN holds v (0 .. 420) SPOONS.");
        RainShelves x = allInOne(SIXTIES.replace("p7 60 0", "p7 60 1"));
        e.bad("k", 0, 60, k -> x.levels(k, 6, 0));
        e.bad("v", 0, 420, v -> x.levels(0, 6, v));
        e.bad("pan", 0, 6, p -> x.levels(0, p, 0));
        e.due("none so far", x.count(3), 0);
        e.due("k 0, v 420", x.levels(0, 6, 420), 1);
        e.due("not so, whatever is stolen of that pan", x.theft(0), 0);
        x.forget();
        e.due("k 60", x.levels(60, 6, 350), 1);
        e.due("in 60, ten stolen", x.theft(1), 610);
        x.spring();
        e.due("from NOW: nine stolen", x.theft(1), 609);
        e.due("k 0, v 0", x.levels(0, 0, 0), 2);
        e.due("third", x.levels(0, 1, 0), 3);
        e.due("fourth", x.levels(0, 2, 0), 4);
        e.due("fifth", x.levels(60, 3, 0), 5);
        e.due("sixth", x.levels(0, 3, 0), RainShelves.FULL);
        e.due("five", x.count(3), 5);
        e.due("all five so", x.theft(1), 609);
        x.forget();
        for (int n = 1; n <= 4; n++) x.levels(0, 0, 0);
        e.due("the fifth counts", x.levels(0, 6, 0), 5);
        e.due("the fifth is not so", x.theft(0), 0);
    }

    private void theftNumbers() {
        e.of(Edges.QUESTIONS, "THEFT: PANS and numbers of SPOONS (1 .. 20)");
        int[] held = {60, 59, 41, 40, 39};
        int[] stolen = {NONE, 1, 19, 20, NONE};
        for (int i = 0; i < held.length; i++) {
            RainShelves x = Check.shelves("p1 60 0 0;");
            x.levels(0, 0, held[i]);
            e.due(held[i] + " of 60 are left", x.theft(1), stolen[i]);
            e.due(held[i] + " of 60 are left: ways", x.theft(0), stolen[i] == NONE ? 0 : 1);
        }
        e.due("any", Check.shelves("p1 60 0 0;").theft(0), 20);
    }

    private void theftHasAsMany() {
        e.of(Edges.QUESTIONS, "by which, if so many were USED of just that PAN now (it has as many),");
        int[] held = {0, 1, 19, 20, 21};
        for (int n : held) {
            RainShelves x = Check.shelves("p1 " + n + " 0 0;");
            e.due("ways of " + n, x.theft(0), Math.min(n, 20));
            e.due("first of " + n, x.theft(1), n == 0 ? NONE : 1);
            e.due("pans of " + n, x.theft(2), n == 0 ? 0 : 1);
        }
        RainShelves y = Check.shelves("p1 10 0 0;p1 10 0 0;");
        y.levels(0, 0, 9);
        y.levels(0, 1, 9);
        e.due("not of two pans", y.theft(0), 0);
        y.forget();
        y.levels(0, 0, 0);
        e.due("all that it has", y.theft(1), 10);
        e.due("not more", y.theft(0), 1);
        y.pours(1, 0, 10);
        e.due("of other rain, too", y.theft(1), 20);
    }

    private void theftAllLevels() {
        e.of(Edges.QUESTIONS, "all LEVELS would be so:");
        RainShelves x = Check.shelves("p1 30 2 0;p1 12 0 0;p1 9 9 0;");
        e.due("no LEVELS: all ways", x.theft(0), 20 + 12 + 9);
        x.levels(3, 0, 20);
        e.due("one is so by four of pan 0", x.theft(1), 4);
        x.levels(0, 1, 12);
        e.due("two are so", x.theft(0), 1);
        x.levels(1, 2, 0);
        e.due("three are so", x.theft(0), 1);
        x.levels(0, 2, 8);
        e.due("the fourth is not", x.theft(0), 0);
        x.forget();
        x.levels(1, 2, 0);
        e.due("it will be empty whatever is stolen", x.theft(0), 41);
        x.forget();
        x.levels(0, 0, 30);
        e.due("as it is now: of the others", x.theft(0), 12 + 9);
        x.levels(0, 0, 29);
        e.due("both can't be", x.theft(0), 0);
        x.forget();
        x.levels(15, 0, 0);
        e.due("dried out in any case", x.theft(0), 41);
        x.forget();
        x.levels(14, 0, 0);
        e.due("dried out by two at least", x.theft(0), 19);
        e.due("dried out by two at least: first", x.theft(1), 2);
    }

    private void theftAnswers() {
        e.of(Edges.QUESTIONS, "how many; the first (100 times the PAN and SPOONS); PANS (bits); NONE.");
        RainShelves x = Check.shelves(SIXTIES);
        e.due("how many at most", x.theft(0), 140);
        e.due("the first at least", x.theft(1), 1);
        e.due("all PANS", x.theft(2), 127);
        x.levels(0, 6, 40);
        e.due("the last way", x.theft(1), 620);
        e.due("the last pan", x.theft(2), 64);
        x.levels(0, 5, 40);
        e.due("no way", x.theft(0), 0);
        e.due("no first", x.theft(1), NONE);
        e.due("no PANS", x.theft(2), 0);
        e.due("no pans at all", new RainShelves().theft(1), NONE);
        e.bad("what", 0, 2, what -> x.theft(what));
    }

    private void shelvesOfAny() {
        e.of(Edges.QUESTIONS, "SHELVES: the fewest on which all PANS that hold any can stand,");
        e.due("no pans", new RainShelves().shelves(), 0);
        e.due("all empty", Check.shelves("p1 0 0 0;p1 0 0 2;").shelves(), 0);
        e.due("one spoon", Check.shelves("p1 1 0 0;p1 0 0 2;").shelves(), 1);
        e.due("seven", Check.shelves(SIXTIES).shelves(), 7);
        e.due("all on one", Check.shelves("p1 1 0 0;p1 1 0 0;p1 1 0 0;p1 1 0 0;p1 1 0 0;p1 1 0 0;p1 4 0 0;s10;").shelves(), 1);
        // First fit by size needs three: 4+4+2, 3+3+3, 2.
        e.due("fewer than by size", Check.shelves("p1 4 0 0;p1 4 0 0;p1 3 0 0;p1 3 0 0;p1 3 0 0;p1 2 0 0;p1 2 0 0;s11;").shelves(), 2);
        e.due("fewer than in order", Check.shelves("p1 3 0 0;p1 3 0 0;p1 7 0 0;p1 7 0 0;s10;").shelves(), 2);
    }

    private void shelvesFull() {
        e.of(Edges.QUESTIONS, "no SHELF with more SPOONS than told,");
        e.due("just full", Check.shelves("p1 5 0 0;p1 5 0 0;s10;").shelves(), 1);
        e.due("one too much", Check.shelves("p1 5 0 0;p1 6 0 0;s10;").shelves(), 2);
        e.due("just full, 99", Check.shelves("p1 60 0 0;p1 39 0 0;s99;").shelves(), 1);
        e.due("one too much, 99", Check.shelves("p1 60 0 0;p1 40 0 0;s99;").shelves(), 2);
        e.due("just full at first", Check.shelves("p1 30 0 0;p1 30 0 0;").shelves(), 1);
        e.due("one too much at first", Check.shelves("p1 30 0 0;p1 31 0 0;").shelves(), 2);
        RainShelves x = Check.shelves("p1 5 0 0;p1 6 0 0;s10;");
        x.uses(1, 1);
        e.due("what is held now", x.shelves(), 1);
    }

    private void shelvesOfHail() {
        e.of(Edges.QUESTIONS, "hail just with hail;");
        e.due("hail, hail", Check.shelves("p1 1 0 2;p1 1 0 2;").shelves(), 1);
        e.due("soft, dust", Check.shelves("p1 1 0 0;p1 1 0 1;").shelves(), 1);
        e.due("soft, hail", Check.shelves("p1 1 0 0;p1 1 0 2;").shelves(), 2);
        e.due("dust, hail", Check.shelves("p1 1 0 1;p1 1 0 2;").shelves(), 2);
        e.due("all three", Check.shelves("p1 1 0 0;p1 1 0 1;p1 1 0 2;").shelves(), 2);
        e.due("an empty hail one", Check.shelves("p1 1 0 0;p1 0 0 2;").shelves(), 1);
        RainShelves x = Check.shelves("p1 9 0 2;p1 9 0 0;");
        x.pours(0, 1, 9);
        e.due("hail's rain in a soft pan: the PAN's SORT", x.shelves(), 1);
        x.pours(1, 0, 3);
        e.due("both hold hail's rain: the PANS' SORTS", x.shelves(), 2);
    }

    private void shelvesNone() {
        e.of(Edges.QUESTIONS, "NONE: a PAN has too much for one.");
        e.due("just as much", Check.shelves("p1 10 0 0;s10;").shelves(), 1);
        e.due("one too much", Check.shelves("p1 11 0 0;s10;").shelves(), NONE);
        e.due("the last one has too much", Check.shelves("p1 1 0 0;p1 1 0 2;p1 11 0 2;s10;").shelves(), NONE);
        RainShelves x = Check.shelves("p1 60 0 0;p1 39 0 0;p1 9 0 0;s99;");
        x.pours(1, 0, 39);
        e.due("99 of 99", x.shelves(), 2);
        x.pours(2, 0, 1);
        e.due("100 of 99", x.shelves(), NONE);
        x.uses(0, 1);
        e.due("99 again", x.shelves(), 2);
        e.due("420", allInOne(SIXTIES).shelves(), NONE);
    }

    private void beside() {
        e.of(Edges.QUESTIONS, "BESIDE: the most other PANS that can stand on one SHELF with a PAN (that holds any, and fits); NONE.");
        RainShelves x = Check.shelves("p1 1 0 0;p1 1 0 0;p1 1 0 0;p1 1 0 0;p1 1 0 1;p1 1 0 1;p1 4 0 0;s10;");
        for (int p = 0; p < 7; p++) e.due("all, just full, " + p, x.beside(p), 6);
        RainShelves y = Check.shelves("p1 5 0 0;p1 5 0 0;p1 6 0 0;p1 10 0 0;p1 11 0 0;p1 0 0 0;p1 1 0 2;s10;");
        e.due("just full with one", y.beside(0), 1);
        e.due("one too much with any", y.beside(2), 0);
        e.due("full by itself", y.beside(3), 0);
        e.due("does not fit", y.beside(4), NONE);
        e.due("holds none", y.beside(5), NONE);
        e.due("hail with no other", y.beside(6), 0);
        y.uses(2, 5);
        e.due("the small ones", y.beside(2), 1);
        y.uses(1, 1);
        e.due("two of them", y.beside(2), 2);
        RainShelves z = Check.shelves("p1 9 0 2;p1 1 0 2;p1 1 0 2;p1 0 0 2;s10;");
        e.due("hail with hail", z.beside(0), 1);
        e.due("hail with small hail, no empty one", z.beside(1), 1);
    }

    private void fraction(RainShelves x, int k, int frost, int upper, int lower) {
        e.due(frost + " of 10, " + k + " left: upper", x.odds(frost, k, 0), upper);
        e.due(frost + " of 10, " + k + " left: lower", x.odds(frost, k, 1), lower);
    }

    private void oddsNumbers() {
        e.of(Edges.QUESTIONS, "ODDS by x (0 .. 10), k (0 .. 7):");
        RainShelves x = Check.shelves(SIXTIES);
        for (int k = 0; k <= 7; k++) {
            fraction(x, k, 0, 1, 1);
            fraction(x, k, 10, k == 0 ? 1 : 0, 1);
        }
        fraction(x, 7, 1, 4782969, 10000000);
        fraction(x, 1, 9, 5217031, 10000000);
        fraction(x, 7, 9, 1, 10000000);
        fraction(x, 0, 9, 1, 1);
        e.bad("x", 0, 10, n -> x.odds(n, 1, 0));
        e.bad("x, lower", 0, 10, n -> x.odds(n, 1, 1));
        e.bad("k", 0, 7, n -> x.odds(1, n, 0));
        e.bad("k, lower", 0, 7, n -> x.odds(1, n, 1));
    }

    private void odds() {
        e.of(Edges.QUESTIONS, "each PAN that can be READ is SPLIT by frost by x of 10, for itself: that k at least of them are left: a fraction.");
        RainShelves x = Check.shelves("p1 5 0 0;p1 5 0 0;p1 4 0 0;p1 0 0 0;");
        fraction(x, 0, 5, 1, 1);
        fraction(x, 1, 5, 3, 4);
        fraction(x, 2, 5, 1, 4);
        fraction(x, 3, 5, 0, 1);
        fraction(x, 7, 0, 0, 1);
        fraction(x, 1, 2, 24, 25);
        fraction(x, 2, 2, 16, 25);
        fraction(x, 1, 3, 91, 100);
        x.pours(2, 1, 1);
        fraction(x, 1, 4, 3, 5);
        fraction(x, 1, 3, 7, 10);
        fraction(x, 2, 4, 0, 1);
        x.uses(0, 1);
        fraction(x, 0, 4, 1, 1);
        fraction(x, 1, 4, 0, 1);
        fraction(new RainShelves(), 0, 10, 1, 1);
        fraction(new RainShelves(), 1, 0, 0, 1);
    }

    private void wettest() {
        e.of(Edges.QUESTIONS, "WETTEST: the YEAR of which there are most SPOONS in all PANS, of several the least; NONE: no rain.");
        e.due("no pans", new RainShelves().now(4), NONE);
        e.due("no rain", Check.shelves("p7 0 0 0;p0 0 0 0;").now(4), NONE);
        e.due("YEAR 0", Check.shelves("p7 0 0 0;p0 1 0 0;").now(4), 0);
        e.due("YEAR 99", Check.shelves("p99 2 0 0;p0 1 0 0;").now(4), 99);
        e.due("of several the least", Check.shelves("p9 5 0 0;p3 5 0 0;p6 5 0 0;").now(4), 3);
        RainShelves x = Check.shelves("p9 5 0 0;p3 6 0 0;p9 2 0 0;");
        e.due("of a YEAR in two PANS", x.now(4), 9);
        x.pours(0, 1, 5);
        e.due("wherever it is", x.now(4), 9);
        x.uses(2, 1);
        e.due("as many: the least", x.now(4), 3);
        x.uses(1, 1);
        e.due("one less of that", x.now(4), 9);
        x.splits(1);
        x.splits(2);
        e.due("all is gone", x.now(4), NONE);
        x.undo();
        e.due("the last spoon", x.now(4), 9);
    }

    private void where() {
        e.of(Edges.QUESTIONS, "WHERE is rain of a PAN: PANS (bits).");
        RainShelves x = Check.shelves("p7 60 0 0;p6 0 0 0;p5 1 0 0;p4 0 0 0;p3 0 0 0;p2 0 0 0;p1 0 0 0;");
        e.due("in its own", x.pan(0, 6), 1);
        e.due("nowhere", x.pan(1, 6), 0);
        for (int p = 1; p < 7; p++) x.pours(0, p, 1);
        e.due("everywhere", x.pan(0, 6), 127);
        e.due("an other's is in its own still", x.pan(2, 6), 4);
        x.splits(0);
        e.due("everywhere but its own", x.pan(0, 6), 126);
        x.uses(2, 1);
        e.due("an other's is nowhere", x.pan(2, 6), 0);
        for (int p = 1; p < 6; p++) x.splits(p);
        e.due("in the last", x.pan(0, 6), 64);
        x.splits(6);
        e.due("nowhere now", x.pan(0, 6), 0);
    }
}

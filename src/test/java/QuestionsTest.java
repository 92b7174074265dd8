/** Promises 13 to 24 and 28: what is asked of things as they are now. */
public final class QuestionsTest {
    private static final Check CHECK = new Check("QuestionsTest");

    public static void main(String[] args) {
        lasts();
        inSprings();
        fire();
        spoil();
        mix();
        levelsAndForget();
        theft();
        shelves();
        beside();
        odds();
        rateAndTrace();
        nothingIsChanged();
        CHECK.end();
    }

    private static void due(String what, long got, long want) {
        CHECK.due(what, got, want);
    }

    private static void lasts() {
        RainShelves x = Check.shelves("p20 30 2 0;p35 12 0 1;p20 4 1 0;p20 60 1 0;p9 5 9 0;");
        due("lasts", x.lasts(0), 13);
        due("lasts for good", x.lasts(1), RainShelves.NONE);
        due("lasts not at all", x.lasts(2), 0);
        due("lasts long", x.lasts(3), 56);
        due("lasts one", x.lasts(4), 1);
        x.pours(1, 0, 1);
        due("mixed", x.lasts(0), 0);
        due("lasts -1", x.lasts(-1), RainShelves.BAD);
        due("lasts 5", x.lasts(5), RainShelves.BAD);
    }

    private static void inSprings() {
        RainShelves x = Check.shelves("p20 30 2 0;p10 12 0 1;p40 60 9 0;");
        due("in 0", x.inSprings(0, 0), 30);
        due("in 5", x.inSprings(5, 0), 20);
        due("in 15", x.inSprings(15, 0), 0);
        due("in 200", x.inSprings(200, 0), 0);
        due("in 200, for good", x.inSprings(200, 1), 12);
        due("in 6", x.inSprings(6, 2), 6);
        due("in 7", x.inSprings(7, 2), 0);
        due("readable in 0", x.inSprings(0, -1), 3);
        due("readable in 6", x.inSprings(6, -1), 3);
        due("readable in 7", x.inSprings(7, -1), 2);
        due("readable in 200", x.inSprings(200, -1), 1);
        x.pours(1, 0, 3);
        due("mixed: readable in 1", x.inSprings(1, -1), 2);
        due("the older rain is gone: readable in 2", x.inSprings(2, -1), 3);
        x.pours(2, 0, 1);
        due("the younger rain stays", x.inSprings(2, -1), 2);
        due("in -1", x.inSprings(-1, 0), RainShelves.BAD);
        due("in 201", x.inSprings(201, 0), RainShelves.BAD);
        due("in 201, all", x.inSprings(201, -1), RainShelves.BAD);
        due("of -2", x.inSprings(0, -2), RainShelves.BAD);
        due("of 3", x.inSprings(0, 3), RainShelves.BAD);
        due("of all of none", new RainShelves().inSprings(0, -1), 0);
        due("of 0 of none", new RainShelves().inSprings(0, 0), RainShelves.BAD);
    }

    private static void fire() {
        RainShelves x = Check.shelves("p20 30 2 0;p35 12 0 1;p20 8 3 2;p61 25 1 2;p5 4 0 0;p5 0 0 0;");
        due("what can't be read goes first", x.fire(4, 0), 16);
        due("all can still be read", x.fire(4, 1), 4);
        due("the least that is enough", x.fire(5, 0), 4);
        due("one less", x.fire(5, 1), 3);
        due("with what can't be read", x.fire(15, 0), 18);
        due("with what can't be read: how many", x.fire(15, 1), 3);
        due("most of it", x.fire(79, 0), 31);
        due("none left", x.fire(79, 1), 0);
        due("too much", x.fire(80, 0), RainShelves.NONE);
        due("too much: how many", x.fire(80, 1), RainShelves.NONE);
        due("400", x.fire(400, 0), RainShelves.NONE);
        due("fire 0", x.fire(0, 0), RainShelves.BAD);
        due("fire 401", x.fire(401, 0), RainShelves.BAD);
        due("what -1", x.fire(1, -1), RainShelves.BAD);
        due("what 2", x.fire(1, 2), RainShelves.BAD);
        RainShelves y = Check.shelves("p1 9 0 0;p1 6 0 0;p1 6 0 0;p1 12 0 0;");
        due("of like ones the least bits", y.fire(6, 0), 2);
        due("one full one rather than two", y.fire(10, 0), 8);
        due("two that hold least", y.fire(13, 0), 3);
        due("none to burn", new RainShelves().fire(1, 1), RainShelves.NONE);
    }

    private static void spoil() {
        RainShelves x = Check.shelves("p20 30 2 0;p35 5 0 1;p20 4 3 2;p9 0 0 0;");
        due("spoil", x.spoil(0), 26);
        due("spoil one", x.spoil(1), 1);
        due("spoil what can't be read", x.spoil(2), 0);
        due("spoil nothing", x.spoil(3), 0);
        x.uses(0, 25);
        due("can still be read", x.pan(0, 4), 1);
        x.uses(0, 1);
        due("can be read no more", x.pan(0, 4), 0);
        x.pours(2, 1, 1);
        due("spoil mixed", x.spoil(1), 0);
        due("spoil -1", x.spoil(-1), RainShelves.BAD);
        due("spoil 4", x.spoil(4), RainShelves.BAD);
        RainShelves y = Check.shelves("p1 60 0 0;l1;");
        due("spoil all of it", y.spoil(0), 60);
    }

    private static void mix() {
        RainShelves x = Check.shelves("p20 30 2 0;p35 12 0 1;p20 0 3 2;p61 25 1 2;");
        due("mix", x.mix(10, 275, 0), 2);
        due("mix: the first", x.mix(10, 275, 1), 105);
        due("whatever there is", x.mix(60, 59 * 20 + 61, 0), 2);
        due("whatever there is: the first", x.mix(60, 59 * 20 + 61, 1), 359);
        due("one of the lesser", x.mix(60, 35 + 59 * 61, 1), 1301);
        due("of like years, no", x.mix(2, 40, 0), 0);
        due("of like years: NONE", x.mix(2, 40, 1), RainShelves.NONE);
        due("just one spoon", x.mix(1, 20, 0), 0);
        due("no such sum", x.mix(60, 0, 1), RainShelves.NONE);
        due("mix 0", x.mix(0, 0, 0), RainShelves.BAD);
        due("mix 61", x.mix(61, 0, 0), RainShelves.BAD);
        due("sum -1", x.mix(1, -1, 0), RainShelves.BAD);
        due("sum 5941", x.mix(1, 5941, 0), RainShelves.BAD);
        due("what -1", x.mix(1, 0, -1), RainShelves.BAD);
        due("what 2", x.mix(1, 0, 2), RainShelves.BAD);
        due("the greatest sum", x.mix(60, 5940, 0), 0);
        RainShelves y = Check.shelves("p9 0 0 0;p9 0 0 0;p0 1 0 0;p4 0 0 0;p99 0 0 0;");
        due("lesser pan first", y.mix(4, 9, 1), 1201 - 1000);
        due("a year 0", y.mix(2, 9, 0), 2);
        due("one way for each pair", y.mix(3, 17, 0), 2);
        due("the last pair", y.mix(2, 103, 1), 3401);
    }

    private static void levelsAndForget() {
        RainShelves x = Check.shelves("p20 30 2 0;p35 12 0 1;");
        due("forget none", x.forget(), 0);
        due("levels -1", x.levels(-1, 0, 0), RainShelves.BAD);
        due("levels 61", x.levels(61, 0, 0), RainShelves.BAD);
        due("levels of -1", x.levels(0, -1, 0), RainShelves.BAD);
        due("levels of 2", x.levels(0, 2, 0), RainShelves.BAD);
        due("levels v -1", x.levels(0, 0, -1), RainShelves.BAD);
        due("levels v 421", x.levels(0, 0, 421), RainShelves.BAD);
        due("levels", x.levels(60, 1, 420), 1);
        due("levels the same", x.levels(60, 1, 420), 2);
        due("levels 3", x.levels(0, 0, 0), 3);
        due("levels 4", x.levels(0, 0, 0), 4);
        due("levels 5", x.levels(0, 0, 0), 5);
        due("levels 6", x.levels(0, 0, 0), RainShelves.FULL);
        due("BAD ahead of FULL", x.levels(61, 0, 0), RainShelves.BAD);
        x.spring();
        x.undo();
        due("they stay", x.count(3), 5);
        due("forget", x.forget(), 5);
        due("forgotten", x.count(3), 0);
        due("levels again", x.levels(0, 0, 0), 1);
    }

    private static void theft() {
        RainShelves x = Check.shelves("p20 30 2 0;p35 12 0 1;p9 5 9 0;");
        due("no levels: all", x.theft(0), 20 + 12 + 5);
        due("no levels: the first", x.theft(1), 1);
        due("no levels: pans", x.theft(2), 7);
        x.levels(3, 0, 20);
        due("four of pan 0", x.theft(0), 1);
        due("four of pan 0: the first", x.theft(1), 4);
        due("four of pan 0: pans", x.theft(2), 1);
        x.levels(0, 1, 12);
        due("and none of pan 1", x.theft(0), 1);
        x.levels(0, 1, 11);
        due("not both", x.theft(0), 0);
        due("not both: the first", x.theft(1), RainShelves.NONE);
        due("not both: pans", x.theft(2), 0);
        x.forget();
        x.levels(0, 0, 30);
        due("not of pan 0", x.theft(2), 6);
        due("not of pan 0: the first", x.theft(1), 101);
        x.forget();
        x.levels(1, 2, 0);
        due("it dries out in any case", x.theft(0), 37);
        x.forget();
        x.levels(0, 0, 10);
        due("twenty", x.theft(1), 20);
        x.forget();
        x.levels(0, 0, 9);
        due("not twenty-one", x.theft(0), 0);
        x.forget();
        x.levels(1, 0, 26);
        due("from now", x.theft(1), 2);
        x.spring();
        due("from now, a spring later", x.theft(0), 12 + 0);
        due("what -1", x.theft(-1), RainShelves.BAD);
        due("what 3", x.theft(3), RainShelves.BAD);
    }

    private static void shelves() {
        RainShelves x = Check.shelves("p1 6 0 0;p1 6 0 1;p1 4 0 0;p1 4 0 1;p1 5 0 0;p1 5 0 1;p1 0 0 2;s10;");
        due("three just full ones", x.shelves(), 3);
        x.uses(4, 5);
        due("one has room", x.shelves(), 3);
        x.splits(5);
        due("two just full ones", x.shelves(), 2);
        x.pours(0, 6, 1);
        due("hail by itself", x.shelves(), 3);
        x.pours(1, 2, 6);
        due("just full", x.shelves(), 3);
        x.pours(3, 2, 1);
        due("too much for one", x.shelves(), RainShelves.NONE);
        due("none hold any", Check.shelves("p1 0 0 0;").shelves(), 0);
        RainShelves y = Check.shelves("p1 5 0 2;p1 5 0 2;p1 5 0 0;p1 4 0 1;s10;");
        due("hail with hail", y.shelves(), 2);
        // The fullest first would need four shelves here.
        RainShelves z = Check.shelves("p1 30 0 0;p1 30 0 0;p1 20 0 0;p1 20 0 0;p1 20 0 0;p1 15 0 0;p1 15 0 0;s50;");
        due("the fewest", z.shelves(), 3);
        RainShelves w = Check.shelves("p1 5 0 0;p1 5 0 0;p1 3 0 0;p1 3 0 0;p1 2 0 0;p1 2 0 0;p1 2 0 0;s11;");
        due("the fewest, full to the last", w.shelves(), 2);
    }

    private static void beside() {
        RainShelves x = Check.shelves("p1 6 0 0;p1 2 0 1;p1 2 0 0;p1 4 0 1;p1 3 0 2;p1 7 0 2;p1 0 0 0;s10;");
        due("two small ones", x.beside(0), 2);
        due("for a small one", x.beside(1), 2);
        due("hail with hail", x.beside(4), 1);
        due("an empty one", x.beside(6), RainShelves.NONE);
        x.pours(5, 4, 7);
        due("all by itself", x.beside(4), 0);
        x.pours(0, 4, 1);
        due("too much", x.beside(4), RainShelves.NONE);
        due("empty ones do not count", x.beside(3), 2);
        due("beside -1", x.beside(-1), RainShelves.BAD);
        due("beside 7", x.beside(7), RainShelves.BAD);
    }

    private static void odds() {
        RainShelves x = Check.shelves("p20 30 2 0;p35 12 0 1;p20 8 3 2;p61 4 1 2;");
        due("one left at least", x.odds(1, 1, 0), 999);
        due("one left at least, of", x.odds(1, 1, 1), 1000);
        due("least terms", x.odds(5, 2, 0), 1);
        due("least terms, of", x.odds(5, 2, 1), 2);
        due("all left", x.odds(4, 3, 0), 27);
        due("all left, of", x.odds(4, 3, 1), 125);
        due("more than can be read", x.odds(0, 4, 0), 0);
        due("more than can be read, of", x.odds(0, 4, 1), 1);
        due("none at least", x.odds(10, 0, 0), 1);
        due("none at least, of", x.odds(10, 0, 1), 1);
        due("all frost", x.odds(10, 1, 0), 0);
        due("all frost, of", x.odds(10, 1, 1), 1);
        due("no frost", x.odds(0, 3, 0), 1);
        due("no frost, of", x.odds(0, 3, 1), 1);
        due("x -1", x.odds(-1, 0, 0), RainShelves.BAD);
        due("x 11", x.odds(11, 0, 0), RainShelves.BAD);
        due("k -1", x.odds(0, -1, 0), RainShelves.BAD);
        due("k 8", x.odds(0, 8, 0), RainShelves.BAD);
        due("what -1", x.odds(0, 0, -1), RainShelves.BAD);
        due("what 2", x.odds(0, 0, 2), RainShelves.BAD);
        RainShelves y = Check.shelves("p1 9 0 0;p1 9 0 0;p1 9 0 0;p1 9 0 0;p1 9 0 0;p1 9 0 0;p1 9 0 0;");
        due("seven left", y.odds(1, 7, 0), 4782969);
        due("seven left, of", y.odds(1, 7, 1), 10000000);
    }

    private static void rateAndTrace() {
        RainShelves x = Check.shelves("p20 30 2 0;p35 12 3 1;");
        x.spring();
        x.spring();
        due("as a pan", x.rate(0, 1), 6);
        due("trace of a pan", x.trace(), 1);
        due("as a saucer", x.rate(1, 1), 9);
        due("trace of a saucer", x.trace(), 12);
        due("as a bottle", x.rate(2, 1), -29);
        due("trace of a bottle", x.trace(), 113);
        due("as a font", x.rate(3, 1), 18);
        due("trace of a font", x.trace(), 1124);
        due("as a phial", x.rate(4, 1), -28);
        due("trace of a phial", x.trace(), 11225);
        due("as an urn", x.rate(5, 1), 8);
        due("trace of an urn", x.trace(), 111226);
        due("kind -1", x.rate(-1, 0), RainShelves.NO);
        due("kind 6", x.rate(6, 0), RainShelves.NO);
        due("rate of -1", x.rate(0, -1), RainShelves.NO);
        due("rate of 2", x.rate(0, 2), RainShelves.NO);
        due("refused: not traced", x.trace(), 111226);
        x.undo();
        due("nothing of it is undone", x.trace(), 111226);
    }

    private static void nothingIsChanged() {
        RainShelves x = Check.shelves("p20 30 2 0;p10 12 3 1;p9 9 1 2;");
        x.pours(0, 1, 4);
        x.levels(2, 0, 20);
        x.lasts(0);
        x.inSprings(7, 1);
        x.inSprings(7, -1);
        x.fire(10, 0);
        x.spoil(2);
        x.mix(5, 60, 0);
        x.theft(0);
        x.shelves();
        x.beside(0);
        x.odds(5, 1, 0);
        x.rate(3, 0);
        due("unchanged: pan 0", x.holds(0, 0), 26);
        due("unchanged: pan 1", x.holds(1, 0), 4);
        due("unchanged: pan 1's own", x.holds(1, 1), 12);
        due("unchanged: pan 2", x.holds(2, 2), 9);
        due("unchanged: spring", x.now(0), 0);
        due("unchanged: lost", x.now(1), 0);
        due("unchanged: undone", x.now(5), 1);
        due("unchanged: levels", x.count(3), 1);
    }
}

/** The promises 1 to 28, sentence by sentence. */
final class PromiseEdges {
    private static final int BAD = RainShelves.BAD, STATE = RainShelves.STATE, FULL = RainShelves.FULL, NONE = RainShelves.NONE;
    private static final String TWO = "p20 30 2 0;p35 12 0 1;";

    private final Edges e;

    PromiseEdges(Edges edges) {
        e = edges;
    }

    void run() {
        newObject();
        type();
        clear();
        house();
        pan();
        holds();
        now();
        uses();
        pours();
        spring();
        splits();
        undo();
        lasts();
        inSprings();
        fire();
        spoil();
        mix();
        levels();
        forget();
        theft();
        shelves();
        beside();
        odds();
        rate();
        keep();
        back();
        count();
        trace();
    }

    private void newObject() {
        e.of(1, "As told; no PANS.");
        RainShelves x = new RainShelves();
        int[] counts = {0, 5, 60, 0, 0};
        for (int what = 0; what < 5; what++) e.due("count " + what, x.count(what), counts[what]);
        int[] nows = {0, 0, 0, 0, NONE, 0};
        for (int what = 0; what < 6; what++) e.due("now " + what, x.now(what), nows[what]);
        e.due("trace", x.trace(), 0);
        e.due("no image 0", x.back(0), STATE);
        e.due("no image 1", x.back(1), STATE);
        e.due("nothing to be undone", x.undo(), STATE);
        e.due("no letters", x.clear(), 0);
        e.due("no LEVELS", x.forget(), 0);
        RainShelves y = new RainShelves();
        x.type('p');
        x.spring();
        x.keep(0);
        e.due("another object has its own text", y.count(4), 0);
        e.due("another object has its own SPRING", y.now(0), 0);
        e.due("another object has its own images", y.back(0), STATE);
    }

    private void type() {
        e.of(2, "A letter (0 .. 255) comes to THE TEXT: how many it has.");
        RainShelves x = new RainShelves();
        e.due("0", x.type(0), 1);
        e.due("255", x.type(255), 2);
        for (int n = 1; n < 199; n++) e.due(n + "", x.type(n), n + 2);
        e.due("200", x.count(4), 200);
        e.of(2, "BAD;");
        RainShelves y = new RainShelves();
        e.bad("type", 0, 255, n -> y.type(n));
        e.due("none came", y.count(4), 0);
        e.of(2, "FULL.");
        RainShelves z = new RainShelves();
        for (int n = 1; n <= 199; n++) z.type(' ');
        e.due("the 200th", z.type(';'), 200);
        e.due("the 201st", z.type(' '), FULL);
        e.due("the 202nd", z.type(0), FULL);
        e.due("none came", z.count(4), 200);
        e.due("what was there stays", z.house(), -10 - 199);
        z.clear();
        e.due("there is room again", z.type(' '), 1);
    }

    private void clear() {
        e.of(3, "THE TEXT is empty: how many letters it had.");
        RainShelves x = new RainShelves();
        e.due("none", x.clear(), 0);
        x.type('x');
        e.due("one", x.clear(), 1);
        e.due("none again", x.clear(), 0);
        for (int n = 0; n < 200; n++) x.type('x');
        e.due("all", x.clear(), 200);
        e.due("empty", x.count(4), 0);
        Check.type(x, "l9;");
        e.due("nothing of the old text is read", x.house(), 1);
        Check.type(x, "s99;p1");
        x.clear();
        e.due("clear tells nothing", x.count(2), 60);
        e.due("clear leaves LEAST", x.count(1), 9);
        e.due("an empty text", x.house(), 0);
    }

    private void house() {
        e.of(4, "THE TEXT tells all anew, and is empty then: how many ITEMS.");
        RainShelves x = new RainShelves();
        e.due("none of an empty text", x.house(), 0);
        e.due("none of blanks", Check.tell(x, "  "), 0);
        e.due("one", Check.tell(x, "p1 2 3 0;"), 1);
        e.due("nine", Check.tell(x, "l6;p1 1 1 1;p1 1 1 1;p1 1 1 1;s66;p1 1 1 1;p1 1 1 1;p1 1 1 1;p1 1 1 1;"), 9);
        e.due("empty then", x.count(4), 0);
        e.due("nothing to clear", x.clear(), 0);
        e.due("fewer pans than before", Check.tell(x, "p9 8 7 1;"), 1);
        e.due("fewer pans: count", x.count(0), 1);
        e.due("fewer pans: no second", x.pan(1, 0), BAD);
        e.due("fewer pans: all rain", x.now(2), 8);
        e.due("more pans than before", Check.tell(x, TWO), 2);
        e.due("more pans: no rain of older ones", x.now(2), 42);
        // Rain that was poured among pans that are no more must not come back.
        x.pours(0, 1, 5);
        Check.tell(x, "p1 1 0 0;");
        Check.tell(x, TWO);
        e.due("more pans: nothing of old pours", x.holds(1, 0), 0);
        nothingOfOldPours();
        houseFault();
    }

    /** Each of seven pans has a spoon of each; told anew, it has its own alone. */
    private void nothingOfOldPours() {
        // The later pan is the older one, so that it pours its own ahead of what came into it.
        String seven = "p7 9 0 0;p6 9 0 0;p5 9 0 0;p4 9 0 0;p3 9 0 0;p2 9 0 0;p1 9 0 0;";
        RainShelves x = Check.shelves(seven);
        for (int a = 0; a < 7; a++) {
            for (int b = 0; b < 7; b++) x.pours(a, b, 1);
        }
        for (int p = 0; p < 7; p++) {
            for (int of = 0; of < 7; of++) e.due("mixed, " + p + " of " + of, x.holds(p, of), p == of ? 3 : 1);
        }
        Check.tell(x, seven);
        for (int p = 0; p < 7; p++) {
            for (int of = 0; of < 7; of++) e.due("anew, " + p + " of " + of, x.holds(p, of), p == of ? 9 : 0);
        }
    }

    private void houseFault() {
        e.of(4, "-10 less FAULT: nothing changes.");
        e.due("FAULT 0", Check.tell(new RainShelves(), "x"), -10);
        e.due("FAULT 1", Check.tell(new RainShelves(), " x"), -11);
        e.due("FAULT 199", Check.tell(new RainShelves(), " ".repeat(199) + "x"), -209);
        e.due("FAULT 200", Check.tell(new RainShelves(), "l" + " ".repeat(199)), -210);
        Twins twins = new Twins(e);
        String[] faults = {"x", "p1 1 1 1;p1 1 1 1;l1;s99;x", "l1;l", "s99;p1 1 1", "p9 9 9 2;;"};
        int[] places = {0, 25, 3, 10, 9};
        for (int i = 0; i < faults.length; i++) {
            String text = faults[i];
            twins.unchanged("fault of '" + text + "'", () -> midwayWith(text), x -> x.house(), -10 - places[i]);
            twins.unchanged("twice '" + text + "'", () -> midwayWith(text), x -> x.house() + x.house(), -20 - 2 * places[i]);
        }
    }

    private static RainShelves midwayWith(String text) {
        RainShelves x = Twins.midway();
        x.clear();
        Check.type(x, text);
        return x;
    }

    private void pan() {
        e.of(5, "Of a PAN: 0 YEAR, 1 SHRINKS, 2 SORT, 3 SPOONS it holds, 4 whether it can be READ (1, 0), 5 TASTE, 6 WHERE its rain is (bits).");
        RainShelves x = Check.shelves("p0 0 0 0;p99 60 9 2;");
        int[] least = {0, 0, 0, 0, 0, 0, 0};
        int[] most = {99, 9, 2, 60, 1, 5940, 2};
        for (int what = 0; what < 7; what++) {
            e.due("least " + what, x.pan(0, what), least[what]);
            e.due("most " + what, x.pan(1, what), most[what]);
        }
        x.pours(1, 0, 9);
        x.spring();
        int[] then = {99, 9, 2, 42, 1, 42 * 99, 3};
        for (int what = 0; what < 7; what++) e.due("then " + what, x.pan(1, what), then[what]);
        e.of(5, "BAD.");
        e.bad("pan", 0, 1, p -> x.pan(p, 0));
        e.bad("what", 0, 6, what -> x.pan(0, what));
        e.due("both", x.pan(2, 7), BAD);
        e.due("of no pans", new RainShelves().pan(0, 0), BAD);
    }

    private void holds() {
        e.of(6, "SPOONS that a PAN holds of the rain of another one (or its own).");
        RainShelves x = Check.shelves("p20 60 2 0;p35 0 0 1;");
        e.due("its own", x.holds(0, 0), 60);
        e.due("its own, none", x.holds(1, 1), 0);
        e.due("of another one, none", x.holds(0, 1), 0);
        x.pours(0, 1, 60);
        e.due("all of another one", x.holds(1, 0), 60);
        e.due("none of its own", x.holds(0, 0), 0);
        e.of(6, "BAD.");
        e.bad("pan", 0, 1, p -> x.holds(p, 0));
        e.bad("of", 0, 1, of -> x.holds(0, of));
        e.due("both", x.holds(2, 2), BAD);
        e.due("of no pans", new RainShelves().holds(0, 0), BAD);
    }

    private void now() {
        e.of(7, "0 THE SPRING, 1 LOST, 2 SPOONS there are, 3 PANS that can be READ (bits), 4 WETTEST (NONE), 5 how many may be UNDONE.");
        RainShelves x = Check.shelves("p7 60 9 0;p6 60 9 0;p5 60 9 0;p4 60 9 0;p3 60 9 0;p2 60 9 0;p1 60 9 0;");
        int[] first = {0, 0, 420, 127, 1, 0};
        for (int what = 0; what < 6; what++) e.due("at first " + what, x.now(what), first[what]);
        for (int n = 0; n < 6; n++) x.spring();
        int[] six = {6, 378, 42, 127, 1, 6};
        for (int what = 0; what < 6; what++) e.due("in six " + what, x.now(what), six[what]);
        for (int n = 0; n < 6; n++) x.spring();
        int[] last = {12, 420, 0, 0, NONE, 10};
        for (int what = 0; what < 6; what++) e.due("in twelve " + what, x.now(what), last[what]);
        e.of(7, "BAD.");
        e.bad("now", 0, 5, what -> x.now(what));
        RainShelves y = new RainShelves();
        e.bad("now at first", 0, 5, what -> y.now(what));
    }

    private void uses() {
        e.of(8, "USED: how many SPOONS were.");
        RainShelves x = Check.shelves(TWO);
        e.due("one", x.uses(0, 1), 1);
        e.due("all but one", x.uses(0, 28), 28);
        e.due("the last, of 99", x.uses(0, 99), 1);
        e.due("just all", x.uses(1, 12), 12);
        e.due("lost", x.now(1), 42);
        e.of(8, "BAD;");
        RainShelves y = Check.shelves(TWO);
        e.bad("uses", 1, 99, n -> y.uses(0, n));
        e.bad("uses of", 0, 1, p -> y.uses(p, 1));
        e.due("nothing was", y.now(2), 42);
        e.due("nothing is known", y.now(5), 0);
        e.of(8, "STATE: it holds none.");
        e.due("used up", x.uses(0, 1), STATE);
        e.due("used up, 99", x.uses(1, 99), STATE);
        e.due("told with none", Check.shelves("p1 0 0 0;").uses(0, 1), STATE);
        e.due("four are known", x.now(5), 4);
        y.pours(0, 1, 99);
        e.due("poured away", y.uses(0, 1), STATE);
        y.pours(1, 0, 1);
        e.due("one came back", y.uses(0, 1), 1);
    }

    private void pours() {
        e.of(9, "POURED: how many SPOONS were.");
        RainShelves x = Check.shelves(TWO);
        e.due("one", x.pours(0, 1, 1), 1);
        e.due("just all", x.pours(0, 1, 29), 29);
        e.due("all of 42", x.pours(1, 0, 99), 42);
        e.due("none is lost", x.now(1), 0);
        e.of(9, "BAD (alike, too);");
        RainShelves y = Check.shelves(TWO);
        e.bad("pours", 1, 99, n -> y.pours(0, 1, n));
        e.bad("from", 0, 1, a -> y.pours(a, 0, 1));
        e.bad("to", 0, 1, b -> y.pours(0, b, 1));
        e.due("alike 0", y.pours(0, 0, 1), BAD);
        e.due("alike 1", y.pours(1, 1, 99), BAD);
        e.due("alike, no such pan", y.pours(2, 2, 1), BAD);
        e.due("nothing was", y.holds(0, 0), 30);
        e.due("nothing is known", y.now(5), 0);
        e.of(9, "STATE: the first one holds none.");
        e.due("poured away", x.pours(1, 0, 1), STATE);
        e.due("told with none", Check.shelves("p1 0 0 0;p1 9 0 0;").pours(0, 1, 1), STATE);
        e.due("the second one may hold none", Check.shelves("p1 0 0 0;p1 9 0 0;").pours(1, 0, 1), 1);
        e.due("both hold none", Check.shelves("p1 0 0 0;p1 0 0 0;").pours(1, 0, 1), STATE);
        e.due("three are known", x.now(5), 3);
    }

    private void spring() {
        e.of(10, "A SPRING: how many SPOONS are gone by it.");
        RainShelves x = Check.shelves("p1 60 9 0;p1 60 9 0;p1 60 9 0;p1 60 9 0;p1 60 9 0;p1 60 9 0;p1 60 9 0;");
        for (int n = 1; n <= 6; n++) e.due("spring " + n, x.spring(), 63);
        e.due("spring 7: what is left", x.spring(), 42);
        e.due("spring 8: nothing is left", x.spring(), 0);
        e.due("it goes by all the same", x.now(0), 8);
        e.due("and can be undone", x.undo(), 7);
        e.due("to spring 7", x.now(0), 7);
        e.due("no pans", new RainShelves().spring(), 0);
        e.due("no shrinking", Check.shelves("p1 60 0 0;").spring(), 0);
        e.of(10, "STATE: it is SPRING 999.");
        RainShelves y = Check.shelves("p1 60 1 0;");
        // More than 512 calls, as that SPRING can't be come to by fewer.
        for (int n = 1; n <= 999; n++) e.due("to SPRING " + n, y.spring(), n <= 60 ? 1 : 0);
        for (int n = 0; n < 3; n++) e.due("SPRING 999", y.spring(), STATE);
        e.due("THE SPRING stays", y.now(0), 999);
        e.due("undone, it can go by again", y.undo(), 9);
        e.due("once more", y.spring(), 0);
        e.due("and no more", y.spring(), STATE);
    }

    private void splits() {
        e.of(11, "SPLIT: how many SPOONS it held.");
        RainShelves x = Check.shelves("p20 60 2 0;p35 60 0 1;p1 1 0 0;");
        e.due("one", x.splits(2), 1);
        x.pours(0, 1, 60);
        e.due("120", x.splits(1), 120);
        e.of(11, "BAD;");
        e.bad("splits", 0, 2, p -> x.splits(p));
        e.due("of no pans", new RainShelves().splits(0), BAD);
        e.of(11, "STATE: none.");
        e.due("split", x.splits(1), STATE);
        e.due("poured away", x.splits(0), STATE);
        e.due("told with none", Check.shelves("p1 0 0 0;").splits(0), STATE);
        e.due("three are known", x.now(5), 3);
    }

    private void undo() {
        e.of(12, "UNDONE: how many more may be.");
        RainShelves x = Check.shelves(TWO);
        for (int n = 0; n < 11; n++) x.spring();
        for (int n = 9; n >= 0; n--) e.due("undo", x.undo(), n);
        e.due("SPRING 1", x.now(0), 1);
        e.of(12, "STATE: none.");
        e.due("none more", x.undo(), STATE);
        e.due("SPRING 1 still", x.now(0), 1);
        e.due("at first", new RainShelves().undo(), STATE);
        x.uses(0, 1);
        e.due("one", x.undo(), 0);
        e.due("none again", x.undo(), STATE);
        x.uses(0, 1);
        x.house();
        e.due("behind house()", x.undo(), STATE);
        Check.tell(x, TWO);
        x.keep(0);
        x.uses(0, 1);
        x.back(0);
        e.due("behind back()", x.undo(), STATE);
    }

    private void lasts() {
        e.of(13, "LASTS;");
        RainShelves x = Check.shelves("p1 60 1 0;p1 0 1 0;p1 60 0 0;l1;");
        e.due("longest", x.lasts(0), 60);
        e.due("not at all", x.lasts(1), 0);
        for (int n = 0; n < 59; n++) x.spring();
        e.due("one more", x.lasts(0), 1);
        x.spring();
        e.due("no more", x.lasts(0), 0);
        e.of(13, "NONE.");
        e.due("for good", x.lasts(2), NONE);
        e.of(13, "BAD.");
        e.bad("lasts", 0, 2, p -> x.lasts(p));
        e.due("of no pans", new RainShelves().lasts(0), BAD);
    }

    private void inSprings() {
        e.of(14, "IN n SPRINGS: SPOONS of a PAN;");
        RainShelves x = Check.shelves("p1 60 1 0;p1 60 0 0;p1 0 9 0;");
        e.due("in 0", x.inSprings(0, 0), 60);
        e.due("in 59", x.inSprings(59, 0), 1);
        e.due("in 60", x.inSprings(60, 0), 0);
        e.due("in 61", x.inSprings(61, 0), 0);
        e.due("in 200", x.inSprings(200, 1), 60);
        e.due("of an empty one", x.inSprings(200, 2), 0);
        e.of(14, "p = -1: how many can be READ.");
        e.due("now", x.inSprings(0, -1), 2);
        e.due("in 55", x.inSprings(55, -1), 2);
        e.due("in 56", x.inSprings(56, -1), 1);
        e.due("in 200", x.inSprings(200, -1), 1);
        e.due("of no pans", new RainShelves().inSprings(0, -1), 0);
        e.of(14, "BAD.");
        e.bad("n", 0, 200, n -> x.inSprings(n, 0));
        e.bad("n, all", 0, 200, n -> x.inSprings(n, -1));
        e.bad("p", -1, 2, p -> x.inSprings(0, p));
        e.due("of pan 0 of no pans", new RainShelves().inSprings(0, 0), BAD);
    }

    private void fire() {
        e.of(15, "FIRE: which (what = 0, bits), how many (1);");
        RainShelves x = Check.shelves("p1 4 0 0;p1 60 0 0;p1 60 0 0;");
        e.due("1: which", x.fire(1, 0), 1);
        e.due("1: how many", x.fire(1, 1), 2);
        e.due("5: which", x.fire(5, 0), 2);
        e.due("5: how many", x.fire(5, 1), 1);
        e.due("124: which", x.fire(124, 0), 7);
        e.due("124: how many", x.fire(124, 1), 0);
        e.of(15, "NONE.");
        e.due("125: which", x.fire(125, 0), NONE);
        e.due("125: how many", x.fire(125, 1), NONE);
        e.due("400: which", x.fire(400, 0), NONE);
        e.of(15, "BAD.");
        e.bad("n", 1, 400, n -> x.fire(n, 0));
        e.bad("what", 0, 1, what -> x.fire(1, what));
        e.bad("what, too much", 0, 1, what -> x.fire(400, what));
    }

    private void spoil() {
        e.of(16, "SPOIL.");
        RainShelves x = Check.shelves("p1 10 0 0;p1 9 0 0;p1 60 0 0;p1 0 0 0;l10;");
        e.due("LEAST", x.spoil(0), 1);
        e.due("one less", x.spoil(1), 0);
        e.due("60", x.spoil(2), 51);
        e.due("none", x.spoil(3), 0);
        e.of(16, "BAD.");
        e.bad("spoil", 0, 3, p -> x.spoil(p));
        e.due("of no pans", new RainShelves().spoil(0), BAD);
    }

    private void mix() {
        e.of(17, "MIX: how many ways (what = 0), the first (1; NONE).");
        RainShelves x = Check.shelves("p0 0 0 0;p1 0 0 0;p2 0 0 0;");
        e.due("2 of 1: ways", x.mix(2, 1, 0), 1);
        e.due("2 of 1: the first", x.mix(2, 1, 1), 101);
        e.due("4 of 4: ways", x.mix(4, 4, 0), 1);
        e.due("4 of 4: the first", x.mix(4, 4, 1), 202);
        e.due("3 of 4: ways", x.mix(3, 4, 0), 2);
        e.due("3 of 4: the first", x.mix(3, 4, 1), 201);
        e.due("3 of 5: the first", x.mix(3, 5, 1), 1201);
        e.due("3 of 6: ways", x.mix(3, 6, 0), 0);
        e.due("3 of 6: NONE", x.mix(3, 6, 1), NONE);
        e.due("1 of 1: NONE", x.mix(1, 1, 1), NONE);
        e.of(17, "BAD.");
        e.bad("t", 1, 60, t -> x.mix(t, 1, 0));
        e.bad("s", 0, 5940, s -> x.mix(2, s, 0));
        e.bad("what", 0, 1, what -> x.mix(2, 1, what));
        e.due("of no pans", new RainShelves().mix(61, 0, 0), BAD);
    }

    private void levels() {
        e.of(18, "LEVELS: how many there are.");
        RainShelves x = Check.shelves(TWO);
        e.due("one", x.levels(0, 0, 0), 1);
        e.due("the same again", x.levels(0, 0, 0), 2);
        e.due("three", x.levels(60, 1, 420), 3);
        e.of(18, "BAD;");
        e.bad("k", 0, 60, k -> x.levels(k, 0, 0));
        e.bad("p", 0, 1, p -> x.levels(0, p, 0));
        e.bad("v", 0, 420, v -> x.levels(0, 0, v));
        e.due("three still", x.count(3), 3);
        e.due("of no pans", new RainShelves().levels(0, 0, 0), BAD);
        e.of(18, "FULL.");
        e.due("four", x.levels(0, 0, 30), 4);
        e.due("five", x.levels(0, 0, 30), 5);
        e.due("six", x.levels(0, 0, 30), FULL);
        e.due("six again", x.levels(60, 1, 420), FULL);
        e.due("five still", x.count(3), 5);
        x.forget();
        e.due("there is room again", x.levels(0, 0, 0), 1);
    }

    private void forget() {
        e.of(19, "No LEVELS: how many there were.");
        RainShelves x = Check.shelves(TWO);
        e.due("none", x.forget(), 0);
        x.levels(0, 0, 1);
        e.due("one", x.forget(), 1);
        e.due("none now", x.forget(), 0);
        for (int n = 0; n < 6; n++) x.levels(0, 0, 1);
        e.due("five", x.forget(), 5);
        e.due("none there", x.count(3), 0);
        e.due("thefts by no LEVELS", x.theft(0), 32);
        x.levels(0, 0, 29);
        e.due("old LEVELS do not come back", x.theft(1), 1);
    }

    private void theft() {
        e.of(20, "THEFT: how many (what = 0), the first (1; NONE), PANS (2, bits).");
        RainShelves x = Check.shelves(TWO);
        e.due("how many", x.theft(0), 32);
        e.due("the first", x.theft(1), 1);
        e.due("PANS", x.theft(2), 3);
        x.levels(0, 1, 0);
        e.due("all of pan 1: how many", x.theft(0), 1);
        e.due("all of pan 1: the first", x.theft(1), 112);
        e.due("all of pan 1: PANS", x.theft(2), 2);
        x.levels(0, 0, 0);
        e.due("none: how many", x.theft(0), 0);
        e.due("none: the first", x.theft(1), NONE);
        e.due("none: PANS", x.theft(2), 0);
        e.of(20, "BAD.");
        e.bad("theft", 0, 2, what -> x.theft(what));
        RainShelves y = new RainShelves();
        e.bad("theft of no pans", 0, 2, what -> y.theft(what));
    }

    private void shelves() {
        e.of(21, "SHELVES;");
        e.due("none", new RainShelves().shelves(), 0);
        RainShelves x = Check.shelves(TWO + "s42;");
        e.due("just one", x.shelves(), 1);
        RainShelves y = Check.shelves(TWO + "s41;");
        e.due("two", y.shelves(), 2);
        e.due("one may be just full", Check.shelves(TWO + "s30;").shelves(), 2);
        y.splits(0);
        e.due("one is split", y.shelves(), 1);
        y.splits(1);
        e.due("both are", y.shelves(), 0);
        y.undo();
        e.due("one is not", y.shelves(), 1);
        Check.tell(y, "p1 9 0 0;");
        e.due("fewer pans", y.shelves(), 1);
        e.of(21, "NONE.");
        RainShelves z = Check.shelves(TWO + "s29;");
        e.due("too much for one", z.shelves(), NONE);
        z.uses(0, 1);
        e.due("one less", z.shelves(), 2);
    }

    private void beside() {
        e.of(22, "BESIDE;");
        RainShelves x = Check.shelves(TWO + "p1 0 0 0;p1 59 0 2;p1 60 0 2;s59;");
        e.due("one", x.beside(0), 1);
        e.due("none", x.beside(3), 0);
        x.splits(1);
        e.due("none, the other one is split", x.beside(0), 0);
        e.due("none, there is no other one", Check.shelves("p1 60 0 0;").beside(0), 0);
        e.of(22, "NONE.");
        e.due("split", x.beside(1), NONE);
        e.due("holds none", x.beside(2), NONE);
        e.due("does not fit", x.beside(4), NONE);
        e.of(22, "BAD.");
        e.bad("beside", 0, 4, p -> x.beside(p));
        e.due("of no pans", new RainShelves().beside(0), BAD);
    }

    private void odds() {
        e.of(23, "ODDS: upper (what = 0), lower number (1), in least terms.");
        RainShelves x = Check.shelves(TWO);
        int[][] due = {{0, 0, 1, 1}, {0, 2, 1, 1}, {0, 3, 0, 1}, {10, 0, 1, 1}, {10, 1, 0, 1}, {5, 1, 3, 4}, {5, 2, 1, 4},
            {1, 1, 99, 100}, {9, 2, 1, 100}, {4, 1, 21, 25}, {8, 1, 9, 25}, {6, 2, 4, 25}, {5, 7, 0, 1}};
        for (int[] row : due) {
            e.due("upper, " + row[0] + " " + row[1], x.odds(row[0], row[1], 0), row[2]);
            e.due("lower, " + row[0] + " " + row[1], x.odds(row[0], row[1], 1), row[3]);
        }
        e.of(23, "BAD.");
        e.bad("x", 0, 10, n -> x.odds(n, 0, 0));
        e.bad("k", 0, 7, k -> x.odds(0, k, 0));
        e.bad("what", 0, 1, what -> x.odds(0, 0, what));
        e.bad("what of no pans", 0, 1, what -> new RainShelves().odds(0, 0, what));
    }

    private void rate() {
        e.of(24, "RATE.");
        RainShelves x = Check.shelves("p99 0 0 0;p0 60 9 0;");
        int[] least = {0, 0, -99, 0, -99, 0};
        int[] most = {60, 69, 60, 138, 61, 60};
        for (int kind = 0; kind < 6; kind++) {
            e.due("least " + kind, x.rate(kind, 0), least[kind]);
            e.due("most " + kind, x.rate(kind, 1), most[kind]);
        }
        e.of(24, "NO: BAD.");
        for (int kind : Edges.outside(0, 5)) e.due("kind " + kind, x.rate(kind, 0), RainShelves.NO);
        for (int p : Edges.outside(0, 1)) e.due("pan " + p, x.rate(0, p), RainShelves.NO);
        e.due("both", x.rate(6, 2), RainShelves.NO);
        e.due("of no pans", new RainShelves().rate(5, 0), RainShelves.NO);
    }

    private void keep() {
        e.of(25, "An IMAGE is kept: THE SPRING.");
        RainShelves x = new RainShelves();
        e.due("0, without pans", x.keep(0), 0);
        x.spring();
        e.due("1", x.keep(1), 1);
        x.spring();
        e.due("0 again", x.keep(0), 2);
        e.due("the later one", x.back(0), 2);
        e.due("1 still", x.back(1), 1);
        e.of(25, "BAD.");
        e.bad("keep", 0, 1, image -> x.keep(image));
        RainShelves y = new RainShelves();
        y.keep(2);
        y.keep(-1);
        e.due("none was kept: 0", y.back(0), STATE);
        e.due("none was kept: 1", y.back(1), STATE);
    }

    private void back() {
        e.of(26, "All of that becomes as an IMAGE has it: THE SPRING.");
        RainShelves x = Check.shelves(TWO);
        x.spring();
        x.keep(1);
        x.pours(0, 1, 9);
        x.spring();
        e.due("back", x.back(1), 1);
        e.due("SPRING", x.now(0), 1);
        e.due("LOST", x.now(1), 2);
        e.due("rain", x.holds(1, 0), 0);
        e.due("rain, too", x.holds(0, 0), 28);
        e.due("once more", x.back(1), 1);
        e.of(26, "BAD;");
        e.bad("back", 0, 1, image -> x.back(image));
        RainShelves y = new RainShelves();
        e.bad("back, none kept", 0, 1, image -> y.back(image));
        e.of(26, "STATE: none was kept.");
        e.due("0 was not kept", x.back(0), STATE);
        e.due("at first 0", y.back(0), STATE);
        e.due("at first 1", y.back(1), STATE);
        x.uses(0, 1);
        x.back(0);
        e.due("refused: what may be undone stays", x.undo(), 0);
        x.house();
        e.due("read anew", x.back(1), STATE);
    }

    private void count() {
        e.of(27, "0 PANS, 1 LEAST, 2 SHELF, 3 LEVELS, 4 letters of THE TEXT.");
        RainShelves x = Check.shelves("p1 1 1 1;p1 1 1 1;p1 1 1 1;p1 1 1 1;p1 1 1 1;p1 1 1 1;p1 1 1 1;l60;s99;");
        for (int n = 0; n < 6; n++) x.levels(0, 0, 0);
        for (int n = 0; n < 201; n++) x.type(' ');
        int[] most = {7, 60, 99, 5, 200};
        for (int what = 0; what < 5; what++) e.due("most " + what, x.count(what), most[what]);
        Check.tell(x, "l1;s10;");
        int[] least = {0, 1, 10, 0, 0};
        for (int what = 0; what < 5; what++) e.due("least " + what, x.count(what), least[what]);
        e.of(27, "BAD.");
        e.bad("count", 0, 4, what -> x.count(what));
    }

    private void trace() {
        e.of(28, "THE TRACE.");
        RainShelves x = Check.shelves(TWO);
        e.due("at first", x.trace(), 0);
        x.rate(3, 0);
        e.due("a FONT", x.trace(), 1011);
        e.due("asked again", x.trace(), 1011);
        x.rate(4, 1);
        e.due("and a PHIAL", x.trace(), 11112);
        x.rate(6, 0);
        x.rate(0, 2);
        e.due("refused", x.trace(), 11112);
        x.keep(0);
        x.rate(0, 0);
        x.back(0);
        e.due("no image has it", x.trace(), 11113);
        x.house();
        e.due("what is read anew does not name it", x.trace(), 11113);
    }
}

/** Promises 1 to 7 and 27: a new object, the text, the house, what each pan is and holds. */
public final class HouseTest {
    private static final Check CHECK = new Check("HouseTest");

    public static void main(String[] args) {
        newObject();
        type();
        clear();
        house();
        houseTellsAllAnew();
        faults();
        pan();
        holds();
        now();
        wettest();
        count();
        CHECK.end();
    }

    private static void due(String what, long got, long want) {
        CHECK.due(what, got, want);
    }

    private static void newObject() {
        RainShelves x = new RainShelves();
        due("new: pans", x.count(0), 0);
        due("new: LEAST", x.count(1), 5);
        due("new: SHELF", x.count(2), 60);
        due("new: levels", x.count(3), 0);
        due("new: letters", x.count(4), 0);
        due("new: spring", x.now(0), 0);
        due("new: lost", x.now(1), 0);
        due("new: spoons", x.now(2), 0);
        due("new: readable", x.now(3), 0);
        due("new: wettest", x.now(4), RainShelves.NONE);
        due("new: undone", x.now(5), 0);
        due("new: trace", x.trace(), 0);
        due("new: pan 0", x.pan(0, 0), RainShelves.BAD);
        due("new: undo", x.undo(), RainShelves.STATE);
        due("new: back", x.back(0), RainShelves.STATE);
        due("new: clear", x.clear(), 0);
        due("new: shelves", x.shelves(), 0);
    }

    private static void type() {
        RainShelves x = new RainShelves();
        due("type -1", x.type(-1), RainShelves.BAD);
        due("type 256", x.type(256), RainShelves.BAD);
        due("type min", x.type(Integer.MIN_VALUE), RainShelves.BAD);
        due("type 0", x.type(0), 1);
        due("type 255", x.type(255), 2);
        for (int n = 3; n <= 200; n++) {
            due("type the letter " + n, x.type(32), n);
        }
        due("type the letter 201", x.type(32), RainShelves.FULL);
        due("type BAD ahead of FULL", x.type(256), RainShelves.BAD);
        due("letters", x.count(4), 200);
        due("clear 200", x.clear(), 200);
        due("type again", x.type(112), 1);
    }

    private static void clear() {
        RainShelves x = Check.shelves("p 1 2 3 0;");
        Check.type(x, "l 7");
        due("clear", x.clear(), 3);
        due("clear again", x.clear(), 0);
        due("clear keeps the house", x.count(0), 1);
        due("house of nothing", x.house(), 0);
        due("house of nothing: no pans", x.count(0), 0);
    }

    private static void house() {
        RainShelves x = new RainShelves();
        due("blanks alone", Check.tell(x, "   "), 0);
        due("just a pan", Check.tell(x, "p99 60 9 2;"), 1);
        due("blanks all about", Check.tell(x, "  p  0   0 0  0  ;  l   60 ; s 99  ; "), 3);
        due("LEAST", x.count(1), 60);
        due("SHELF", x.count(2), 99);
        due("text is empty then", x.count(4), 0);
        due("any order", Check.tell(x, "s10;p1 2 3 1;l1;p4 5 6 2;"), 4);
        due("pans", x.count(0), 2);
        due("LEAST 1", x.count(1), 1);
        due("SHELF 10", x.count(2), 10);
        String seven = "p1 1 1 1;p2 2 2 2;p3 3 3 0;p4 4 4 1;p5 5 5 2;p6 6 6 0;p7 7 7 1;";
        due("seven pans and both", Check.tell(x, seven + "l9;s90;"), 9);
        due("pan 6 of seven", x.pan(6, 0), 7);
        due("pan 7 of seven", x.pan(7, 0), RainShelves.BAD);
    }

    private static void houseTellsAllAnew() {
        RainShelves x = Check.shelves("p1 50 5 0;p2 20 0 0;l9;s20;");
        x.uses(0, 3);
        x.pours(0, 1, 4);
        x.spring();
        x.keep(0);
        x.keep(1);
        x.levels(1, 1, 1);
        x.rate(0, 0);
        Check.type(x, "p3 x");
        due("fault", x.house(), -10 - 3);
        due("fault: the text stays", x.count(4), 4);
        due("fault: pans stay", x.count(0), 2);
        due("fault: rain stays", x.holds(1, 0), 4);
        due("fault: levels stay", x.count(3), 1);
        due("fault: undone stays", x.now(5), 3);
        due("fault: images stay", x.back(1), 1);
        x.splits(0);
        x.clear();
        Check.type(x, "p30 10 1 2;p40 11 1 1;");
        due("anew", x.house(), 2);
        due("anew: YEAR", x.pan(0, 0), 30);
        due("anew: LEAST", x.count(1), 5);
        due("anew: SHELF", x.count(2), 60);
        due("anew: spring", x.now(0), 0);
        due("anew: lost", x.now(1), 0);
        due("anew: rain", x.holds(0, 0), 10);
        due("anew: no other rain", x.holds(1, 0), 0);
        due("anew: levels", x.count(3), 0);
        due("anew: nothing to undo", x.undo(), RainShelves.STATE);
        due("anew: image 0", x.back(0), RainShelves.STATE);
        due("anew: image 1", x.back(1), RainShelves.STATE);
        due("anew: the trace stays", x.trace(), 1);
    }

    private static void fault(String text, int place) {
        RainShelves x = new RainShelves();
        due("fault of '" + text + "'", Check.tell(x, text), -10 - place);
        due("fault of '" + text + "': letters", x.count(4), text.length());
        due("fault of '" + text + "': pans", x.count(0), 0);
    }

    private static void faults() {
        fault(";", 0);
        fault(" 5;", 1);
        fault("p;", 1);
        fault("p 1;", 3);
        fault("p 1 2 3 1", 9);
        fault("p 1 2 3 1  ", 11);
        fault("p 1 2 3 1 1;", 10);
        fault("p 1 2 3 1;;", 10);
        fault("p 1 2 p 1;", 6);
        fault("p", 1);
        fault("p 1 2", 5);
        fault("p 100 2 3 1;", 2);
        fault("p 99 61 3 1;", 5);
        fault("p 99 60 10 1;", 8);
        fault("p 99 60 9 3;", 10);
        fault("p 01 60 9 2;", 2);
        fault("p 00 60 9 2;", 2);
        fault("p 0 060 9 2;", 4);
        fault("p 4294967297 1 1 1;", 2);
        fault("p 1 18446744073709551617 1 1;", 4);
        fault("l;", 1);
        fault("l 0;", 2);
        fault("l 61;", 2);
        fault("l 5 5;", 4);
        fault("l 5", 3);
        fault("s 9;", 2);
        fault("s 100;", 2);
        fault("s 010;", 2);
        fault("l 5;s 10;l 5;", 9);
        fault("s 10; s", 6);
        fault("P 1 2 3 1;", 0);
        fault("p 1 2 3 1\t;", 9);
        fault("p-1 2 3 1;", 1);
        fault("x l 100;", 0);
        fault("; x", 0);
        fault("p 1 2 3 1,", 9);
        String seven = "p1 1 1 1;p1 1 1 1;p1 1 1 1;p1 1 1 1;p1 1 1 1;p1 1 1 1;p1 1 1 1;";
        fault(seven + "p1 1 1 1;", 63);
        fault(seven + " p", 64);
        fault(seven + "l 5;s 10;l 5;", 72);
        fault(seven + "l 5;s 10;;", 72);
        fault("" + (char) 0, 0);
        fault("l 5;" + (char) 255, 4);
    }

    private static void pan() {
        RainShelves x = Check.shelves("p20 30 2 0;p35 12 0 1;p99 4 9 2;");
        due("YEAR", x.pan(2, 0), 99);
        due("SHRINKS", x.pan(2, 1), 9);
        due("SORT", x.pan(2, 2), 2);
        due("SORT dust", x.pan(1, 2), 1);
        due("SPOONS", x.pan(0, 3), 30);
        due("READ", x.pan(0, 4), 1);
        due("READ, too little", x.pan(2, 4), 0);
        due("TASTE", x.pan(1, 5), 12 * 35);
        due("WHERE", x.pan(1, 6), 2);
        x.pours(1, 0, 5);
        x.pours(1, 2, 7);
        due("SPOONS poured", x.pan(0, 3), 35);
        due("READ with other rain", x.pan(0, 4), 0);
        due("READ when empty", x.pan(1, 4), 0);
        due("TASTE mixed", x.pan(2, 5), 4 * 99 + 7 * 35);
        due("TASTE of nothing", x.pan(1, 5), 0);
        due("WHERE poured", x.pan(1, 6), 5);
        due("pan -1", x.pan(-1, 0), RainShelves.BAD);
        due("pan 3", x.pan(3, 0), RainShelves.BAD);
        due("what -1", x.pan(0, -1), RainShelves.BAD);
        due("what 7", x.pan(0, 7), RainShelves.BAD);
        RainShelves y = Check.shelves("p1 5 0 0;p1 4 0 0;p1 0 0 0;");
        due("READ at LEAST", y.pan(0, 4), 1);
        due("READ below LEAST", y.pan(1, 4), 0);
        due("WHERE of no rain", y.pan(2, 6), 0);
    }

    private static void holds() {
        RainShelves x = Check.shelves("p20 30 2 0;p35 12 0 1;");
        due("own", x.holds(1, 1), 12);
        due("other", x.holds(0, 1), 0);
        x.pours(0, 1, 11);
        due("poured", x.holds(1, 0), 11);
        due("left", x.holds(0, 0), 19);
        due("still own", x.holds(1, 1), 12);
        due("holds -1", x.holds(-1, 0), RainShelves.BAD);
        due("holds 2", x.holds(2, 0), RainShelves.BAD);
        due("of -1", x.holds(0, -1), RainShelves.BAD);
        due("of 2", x.holds(0, 2), RainShelves.BAD);
    }

    private static void now() {
        RainShelves x = Check.shelves("p20 30 2 0;p35 12 0 1;p60 4 0 0;");
        due("spoons", x.now(2), 46);
        due("readable", x.now(3), 3);
        x.spring();
        x.splits(1);
        due("spring", x.now(0), 1);
        due("lost", x.now(1), 14);
        due("spoons left", x.now(2), 32);
        due("readable left", x.now(3), 1);
        due("may be undone", x.now(5), 2);
        due("now -1", x.now(-1), RainShelves.BAD);
        due("now 6", x.now(6), RainShelves.BAD);
    }

    private static void wettest() {
        RainShelves x = Check.shelves("p50 10 0 0;p40 8 0 0;p30 9 0 0;p40 3 0 0;p50 1 0 0;");
        due("two pans of a year", x.now(4), 40);
        x.pours(3, 2, 3);
        due("wherever it is", x.now(4), 40);
        x.splits(0);
        x.uses(1, 2);
        due("of several the least", x.now(4), 30);
        x.splits(1);
        x.splits(2);
        due("what is left", x.now(4), 50);
        x.splits(4);
        due("no rain", x.now(4), RainShelves.NONE);
    }

    private static void count() {
        RainShelves x = Check.shelves("p20 30 2 0;p35 12 0 1;l8;s33;");
        x.levels(0, 0, 0);
        x.type(32);
        due("count pans", x.count(0), 2);
        due("count LEAST", x.count(1), 8);
        due("count SHELF", x.count(2), 33);
        due("count levels", x.count(3), 1);
        due("count letters", x.count(4), 1);
        due("count -1", x.count(-1), RainShelves.BAD);
        due("count 5", x.count(5), RainShelves.BAD);
    }
}

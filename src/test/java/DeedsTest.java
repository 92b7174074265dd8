/** Promises 8 to 12, 25 and 26: what is done, what is undone, images. */
public final class DeedsTest {
    private static final Check CHECK = new Check("DeedsTest");

    public static void main(String[] args) {
        uses();
        oldestFirst();
        pours();
        spring();
        splits();
        undo();
        undoKnowsTen();
        keepAndBack();
        refusedDeedsAreNotKnown();
        CHECK.end();
    }

    private static void due(String what, long got, long want) {
        CHECK.due(what, got, want);
    }

    private static void uses() {
        RainShelves x = Check.shelves("p20 30 2 0;p35 12 0 1;p1 0 0 0;");
        due("uses", x.uses(0, 1), 1);
        due("uses: held", x.pan(0, 3), 29);
        due("uses: lost", x.now(1), 1);
        due("uses more than there is", x.uses(1, 99), 12);
        due("uses: lost all", x.now(1), 13);
        due("uses none", x.uses(1, 1), RainShelves.STATE);
        due("uses an empty one", x.uses(2, 1), RainShelves.STATE);
        due("uses 0", x.uses(0, 0), RainShelves.BAD);
        due("uses 100", x.uses(0, 100), RainShelves.BAD);
        due("BAD ahead of STATE", x.uses(1, 100), RainShelves.BAD);
        due("uses of -1", x.uses(-1, 1), RainShelves.BAD);
        due("uses of 3", x.uses(3, 1), RainShelves.BAD);
        due("refused: nothing changes", x.now(2), 29);
    }

    private static void oldestFirst() {
        RainShelves x = Check.shelves("p30 10 0 0;p20 10 0 0;p20 10 0 0;p40 0 0 0;");
        x.pours(0, 3, 10);
        x.pours(2, 3, 10);
        x.pours(1, 3, 10);
        due("uses the oldest, of the lowest pan", x.uses(3, 4), 4);
        due("of pan 1", x.holds(3, 1), 6);
        due("of pan 2", x.holds(3, 2), 10);
        due("pours the oldest", x.pours(3, 0, 13), 13);
        due("poured of pan 1", x.holds(0, 1), 6);
        due("poured of pan 2", x.holds(0, 2), 7);
        due("left of pan 2", x.holds(3, 2), 3);
        due("left of pan 0", x.holds(3, 0), 10);
        due("uses into the youngest", x.uses(3, 5), 5);
        due("pan 2's is used up", x.holds(3, 2), 0);
        due("pan 0's is begun", x.holds(3, 0), 8);
    }

    private static void pours() {
        RainShelves x = Check.shelves("p20 60 2 0;p35 60 0 1;p1 0 0 2;");
        due("pours", x.pours(0, 1, 7), 7);
        due("pours: lost", x.now(1), 0);
        due("pours: there are as many", x.now(2), 120);
        due("pours all", x.pours(1, 2, 99), 67);
        due("pours: what it is", x.holds(2, 0), 7);
        due("pours: what it is, too", x.holds(2, 1), 60);
        due("pours back to its own", x.pours(2, 0, 7), 7);
        due("its own alone again", x.holds(0, 0), 60);
        due("can be read again", x.pan(0, 4), 1);
        due("pours of none", x.pours(1, 0, 1), RainShelves.STATE);
        due("pours alike", x.pours(0, 0, 1), RainShelves.BAD);
        due("pours 0", x.pours(0, 1, 0), RainShelves.BAD);
        due("pours 100", x.pours(0, 1, 100), RainShelves.BAD);
        due("pours from -1", x.pours(-1, 1, 1), RainShelves.BAD);
        due("pours from 3", x.pours(3, 1, 1), RainShelves.BAD);
        due("pours to -1", x.pours(0, -1, 1), RainShelves.BAD);
        due("pours to 3", x.pours(0, 3, 1), RainShelves.BAD);
        due("BAD ahead of STATE", x.pours(1, 1, 1), RainShelves.BAD);
    }

    private static void spring() {
        RainShelves x = Check.shelves("p20 30 2 0;p35 12 0 1;p20 5 9 2;");
        due("spring", x.spring(), 7);
        due("spring: now", x.now(0), 1);
        due("spring: lost", x.now(1), 7);
        due("spring: pan 0", x.pan(0, 3), 28);
        due("spring: pan 1", x.pan(1, 3), 12);
        due("spring: pan 2", x.pan(2, 3), 0);
        due("spring again", x.spring(), 2);
        x.pours(1, 0, 12);
        x.pours(0, 2, 20);
        due("shrinks by the pan, not by the rain", x.spring(), 2 + 9);
        due("the oldest shrinks", x.holds(2, 0), 11);
        RainShelves y = new RainShelves();
        for (int n = 1; n <= 500; n++) {
            y.spring();
        }
        due("many springs", y.now(0), 500);
        // Beyond 512 calls nothing is promised, but the last spring can't be seen sooner.
        for (int n = 501; n <= 999; n++) {
            y.spring();
        }
        due("the last spring", y.now(0), 999);
        due("no spring behind it", y.spring(), RainShelves.STATE);
        due("still the last spring", y.now(0), 999);
    }

    private static void splits() {
        RainShelves x = Check.shelves("p20 30 2 0;p35 12 0 1;");
        x.pours(0, 1, 10);
        due("splits", x.splits(1), 22);
        due("splits: lost", x.now(1), 22);
        due("splits: other's rain", x.holds(1, 0), 0);
        due("splits: own rain", x.holds(1, 1), 0);
        due("splits: the other stays", x.pan(0, 3), 20);
        due("splits again", x.splits(1), RainShelves.STATE);
        due("splits -1", x.splits(-1), RainShelves.BAD);
        due("splits 2", x.splits(2), RainShelves.BAD);
    }

    private static void undo() {
        RainShelves x = Check.shelves("p20 30 2 0;p35 12 0 1;");
        x.uses(0, 5);
        x.pours(0, 1, 5);
        x.spring();
        x.splits(1);
        due("undo splits", x.undo(), 3);
        due("undo splits: own", x.holds(1, 1), 12);
        due("undo splits: other's", x.holds(1, 0), 5);
        due("undo splits: lost", x.now(1), 7);
        due("undo spring", x.undo(), 2);
        due("undo spring: spring", x.now(0), 0);
        due("undo spring: held", x.pan(0, 3), 20);
        due("undo spring: lost", x.now(1), 5);
        due("a new deed", x.uses(1, 1), 1);
        due("undo that", x.undo(), 2);
        due("undo pours", x.undo(), 1);
        due("undo pours: from", x.pan(0, 3), 25);
        due("undo pours: to", x.pan(1, 3), 12);
        due("undo uses", x.undo(), 0);
        due("undo uses: held", x.pan(0, 3), 30);
        due("undo uses: lost", x.now(1), 0);
        due("undo none", x.undo(), RainShelves.STATE);
    }

    private static void undoKnowsTen() {
        RainShelves x = Check.shelves("p20 60 2 0;");
        for (int n = 1; n <= 13; n++) {
            x.uses(0, 1);
            due("known after " + n, x.now(5), Math.min(n, 10));
        }
        for (int n = 9; n >= 0; n--) {
            due("undo, more", x.undo(), n);
        }
        due("older ones are lost", x.undo(), RainShelves.STATE);
        due("as after three", x.pan(0, 3), 57);
        x.uses(0, 2);
        due("a new one is known", x.undo(), 0);
        due("as after three again", x.pan(0, 3), 57);
    }

    private static void keepAndBack() {
        RainShelves x = Check.shelves("p20 30 2 0;p35 12 0 1;");
        due("back to none", x.back(0), RainShelves.STATE);
        due("keep", x.keep(0), 0);
        due("back to the other one", x.back(1), RainShelves.STATE);
        x.spring();
        x.pours(0, 1, 8);
        x.uses(1, 1);
        due("keep 1", x.keep(1), 1);
        due("keep leaves what can be undone", x.now(5), 3);
        x.levels(1, 0, 3);
        x.rate(0, 0);
        x.type(65);
        due("back", x.back(0), 0);
        due("back: held", x.pan(0, 3), 30);
        due("back: other's", x.holds(1, 0), 0);
        due("back: lost", x.now(1), 0);
        due("back: spring", x.now(0), 0);
        due("back: levels stay", x.count(3), 1);
        due("back: the trace stays", x.trace(), 1);
        due("back: the text stays", x.count(4), 1);
        due("back: nothing to undo", x.undo(), RainShelves.STATE);
        due("back 1", x.back(1), 1);
        due("back 1: other's", x.holds(1, 0), 7);
        due("back 1: lost", x.now(1), 3);
        x.splits(0);
        due("back again", x.back(1), 1);
        due("an image stays as it is", x.pan(0, 3), 20);
        x.spring();
        x.keep(1);
        x.undo();
        due("kept anew, undone since", x.back(1), 2);
        due("keep -1", x.keep(-1), RainShelves.BAD);
        due("keep 2", x.keep(2), RainShelves.BAD);
        due("back -1", x.back(-1), RainShelves.BAD);
        due("back 2", x.back(2), RainShelves.BAD);
    }

    private static void refusedDeedsAreNotKnown() {
        RainShelves x = Check.shelves("p20 30 2 0;p35 0 0 1;");
        x.uses(1, 1);
        x.uses(0, 0);
        x.pours(1, 0, 1);
        x.pours(0, 0, 1);
        x.splits(1);
        x.splits(2);
        due("nothing known", x.now(5), 0);
        x.keep(0);
        x.uses(0, 1);
        x.back(1);
        x.back(2);
        due("a refused back() lets undo", x.undo(), 0);
    }
}

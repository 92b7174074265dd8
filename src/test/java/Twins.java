import java.util.ArrayList;
import java.util.List;

/**
 * Two objects that were made alike; to one of them calls are made that must not change anything.
 * Whatever can be seen of both, now and behind later calls, must be the same then.
 */
final class Twins {
    /** How an object is brought to where a call is made: some 250 calls at most, looking takes 230. */
    interface Making {
        RainShelves make();
    }

    private final Edges e;

    Twins(Edges edges) {
        e = edges;
    }

    /** The call answers this, and nothing changes. */
    void unchanged(String what, Making making, Edges.Call call, long want) {
        RainShelves one = making.make();
        e.due(what, call.on(one), want);
        same(what, one, making.make());
    }

    /** The call, whatever it answers, changes nothing. */
    void unchanged(String what, Making making, Edges.Call call) {
        RainShelves one = making.make();
        call.on(one);
        same(what, one, making.make());
    }

    private void same(String what, RainShelves one, RainShelves other) {
        List<String> names = new ArrayList<>();
        List<Long> seen = look(one, names);
        List<Long> due = look(other, new ArrayList<>());
        e.due(what + ": as much is seen", seen.size(), due.size());
        for (int i = 0; i < Math.min(seen.size(), due.size()); i++) {
            e.due(what + " changes nothing: " + names.get(i), seen.get(i), due.get(i));
        }
    }

    private static void see(List<Long> seen, List<String> names, String name, long answer) {
        seen.add(answer);
        names.add(name);
    }

    /** First what can be asked, then what undo(), back() and the text bring to light. */
    private static List<Long> look(RainShelves x, List<String> names) {
        List<Long> seen = new ArrayList<>();
        for (int what = 0; what < 5; what++) see(seen, names, "count " + what, x.count(what));
        for (int what = 0; what < 6; what++) see(seen, names, "now " + what, x.now(what));
        see(seen, names, "trace", x.trace());
        for (int what = 0; what < 3; what++) see(seen, names, "theft " + what, x.theft(what));
        for (int p = 0; p < x.count(0); p++) {
            for (int what = 0; what < 7; what++) see(seen, names, "pan " + p + " " + what, x.pan(p, what));
        }
        rain(x, seen, names, "now");
        for (int i = 0; i < 11; i++) {
            see(seen, names, "undo " + i, x.undo());
            rain(x, seen, names, "behind undo " + i);
        }
        for (int image = 0; image < 2; image++) {
            see(seen, names, "back " + image, x.back(image));
            rain(x, seen, names, "behind back " + image);
        }
        // Those are numbers of a pan that has been begun in the text, if it has.
        for (char c : " 1;".toCharArray()) see(seen, names, "type", x.type(c));
        see(seen, names, "house", x.house());
        for (int what = 0; what < 5; what++) see(seen, names, "count anew " + what, x.count(what));
        rain(x, seen, names, "anew");
        return seen;
    }

    private static void rain(RainShelves x, List<Long> seen, List<String> names, String when) {
        int pans = x.count(0);
        for (int p = 0; p < pans; p++) {
            for (int of = 0; of < pans; of++) see(seen, names, when + ": " + p + " holds of " + of, x.holds(p, of));
        }
        for (int what : new int[] {0, 1, 5}) see(seen, names, when + ": now " + what, x.now(what));
    }

    /** Three pans, the last one empty; one image, some deeds, two levels, a text that is not ended. */
    static RainShelves midway() {
        RainShelves x = Check.shelves("p9 30 2 0;p5 12 1 2;p7 0 0 1;l4;s50;");
        x.uses(0, 3);
        x.pours(0, 1, 4);
        x.keep(0);
        x.spring();
        x.pours(1, 0, 2);
        x.levels(2, 0, 15);
        x.levels(0, 1, 13);
        x.rate(3, 0);
        Check.type(x, "p1 2 3");
        return x;
    }

    /** Two pans; everything that can be full is: letters, levels, images, what may be undone. */
    static RainShelves full() {
        RainShelves x = Check.shelves("p9 60 1 0;p5 0 1 2;");
        for (int n = 0; n < 10; n++) x.uses(0, 1);
        x.keep(0);
        x.pours(0, 1, 9);
        x.splits(1);
        x.keep(1);
        for (int n = 0; n < 5; n++) x.levels(n, 0, 39 - n);
        Check.type(x, "l7;" + " ".repeat(197));
        return x;
    }
}

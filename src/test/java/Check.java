/** Counts the answers that are not the ones due; each test ends by end(). */
final class Check {
    private final String test;
    private int asked = 0;
    private int wrong = 0;

    Check(String test) {
        this.test = test;
    }

    void due(String what, long got, long want) {
        asked++;
        if (got != want) {
            wrong++;
            System.out.println(test + ": " + what + " answered " + got + ", due is " + want);
        }
    }

    int wrong() {
        return wrong;
    }

    void end() {
        System.out.println(test + ": " + asked + " answers, " + wrong + " wrong");
        if (wrong > 0 || asked == 0) {
            System.exit(1);
        }
    }

    /** A new object to which the text was told, and read if it has no fault. */
    static RainShelves shelves(String text) {
        RainShelves x = new RainShelves();
        tell(x, text);
        return x;
    }

    /** The answer of house() to the text, told to an object whose text is emptied first. */
    static int tell(RainShelves x, String text) {
        x.clear();
        type(x, text);
        return x.house();
    }

    static void type(RainShelves x, String text) {
        for (int i = 0; i < text.length(); i++) {
            x.type(text.charAt(i));
        }
    }
}

/** The first part of 'Terms': pans, LEAST, SHELF, the text and its faults. */
final class TextEdges {
    private static final String SEVEN = "p1 1 1 1;p1 1 1 1;p1 1 1 1;p1 1 1 1;p1 1 1 1;p1 1 1 1;p1 1 1 1;";

    private final Edges e;

    TextEdges(Edges edges) {
        e = edges;
    }

    void run() {
        sevenPans();
        years();
        spoons();
        shrinks();
        sorts();
        least();
        leastIsEnough();
        shelf();
        letters();
        letterByLetter();
        blanks();
        items();
        onceEach();
        tokens();
        firstFault();
        tooMuchOfIt();
        otherLetters();
        numbersOfThreeDigits();
        zerosAhead();
        endsTooEarly();
    }

    private RainShelves reads(String text, int items) {
        RainShelves x = new RainShelves();
        e.due("items of '" + text + "'", Check.tell(x, text), items);
        e.due("'" + text + "' is read: the text is empty", x.count(4), 0);
        return x;
    }

    /** Told to an object that has a house: that stays, and the text too. */
    private void fault(String text, int place) {
        RainShelves x = Check.shelves("p7 8 1 2;l3;s44;");
        e.due("fault of '" + text + "'", Check.tell(x, text), -10 - place);
        e.due("fault of '" + text + "': the text stays", x.count(4), text.length());
        e.due("fault of '" + text + "': pans stay", x.count(0), 1);
        e.due("fault of '" + text + "': LEAST stays", x.count(1), 3);
        e.due("fault of '" + text + "': SHELF stays", x.count(2), 44);
        e.due("fault of '" + text + "': rain stays", x.pan(0, 3), 8);
    }

    private void sevenPans() {
        e.of(Edges.PANS, "(7 at most):");
        e.due("no pan", reads("l5;", 1).count(0), 0);
        e.due("one pan", reads("p1 1 1 1;", 1).count(0), 1);
        RainShelves x = reads("p1 1 1 1;p1 1 1 1;p1 1 1 1;p1 1 1 1;p1 1 1 1;p1 1 1 1;p77 8 6 2;", 7);
        e.due("seven pans", x.count(0), 7);
        e.due("the seventh: YEAR", x.pan(6, 0), 77);
        e.due("the seventh: SHRINKS", x.pan(6, 1), 6);
        e.due("the seventh: SORT", x.pan(6, 2), 2);
        e.due("the seventh: SPOONS", x.pan(6, 3), 8);
        e.due("no eighth", x.pan(7, 0), RainShelves.BAD);
        fault(SEVEN + "p1 1 1 1;", 63);
    }

    private void years() {
        e.of(Edges.PANS, "a YEAR (0 .. 99),");
        for (int n = 0; n <= 99; n++) {
            e.due("YEAR " + n, reads("p" + n + " 1 1 1;", 1).pan(0, 0), n);
        }
        fault("p100 1 1 1;", 1);
        fault("p 255 1 1 1;", 2);
        fault("p-1 1 1 1;", 1);
    }

    private void spoons() {
        e.of(Edges.PANS, "SPOONS (0 .. 60) of its own rain,");
        for (int n = 0; n <= 60; n++) {
            RainShelves x = reads("p1 " + n + " 1 1;", 1);
            e.due("SPOONS " + n, x.pan(0, 3), n);
            e.due("SPOONS " + n + ", its own", x.holds(0, 0), n);
        }
        fault("p1 61 1 1;", 3);
        fault("p1 99 1 1;", 3);
        fault("p1 100 1 1;", 3);
        fault("p1 -1 1 1;", 3);
    }

    private void shrinks() {
        e.of(Edges.PANS, "SHRINKS (0 .. 9 SPOONS a SPRING),");
        for (int n = 0; n <= 9; n++) {
            RainShelves x = reads("p1 20 " + n + " 1;", 1);
            e.due("SHRINKS " + n, x.pan(0, 1), n);
            x.spring();
            e.due("SHRINKS " + n + " a SPRING", x.pan(0, 3), 20 - n);
        }
        fault("p1 1 10 1;", 5);
        fault("p1 1 99 1;", 5);
        fault("p1 1 100 1;", 5);
        fault("p1 1 -1 1;", 5);
    }

    private void sorts() {
        e.of(Edges.PANS, "a SORT (0 soft, 1 dust, 2 hail).");
        for (int n = 0; n <= 2; n++) {
            e.due("SORT " + n, reads("p1 1 1 " + n + ";", 1).pan(0, 2), n);
        }
        fault("p1 1 1 3;", 7);
        fault("p1 1 1 9;", 7);
        fault("p1 1 1 99;", 7);
        fault("p1 1 1 100;", 7);
        fault("p1 1 1 -1;", 7);
    }

    private void least() {
        e.of(Edges.PANS, "LEAST (1 .. 60; 5 at first):");
        e.due("at first", new RainShelves().count(1), 5);
        e.due("not told", reads("p1 1 1 1;", 1).count(1), 5);
        for (int n = 1; n <= 60; n++) {
            e.due("LEAST " + n, reads("l" + n + ";", 1).count(1), n);
        }
        fault("l0;", 1);
        fault("l61;", 1);
        fault("l 99;", 2);
        fault("l100;", 1);
        fault("l-1;", 1);
    }

    private void leastIsEnough() {
        e.of(Edges.PANS, "so many SPOONS must be there to be read.");
        for (int n = 1; n <= 60; n++) {
            RainShelves x = reads("p1 " + n + " 0 0;p1 " + (n - 1) + " 0 0;l" + n + ";", 3);
            e.due("LEAST " + n + ", so many", x.pan(0, 4), 1);
            e.due("LEAST " + n + ", one less", x.pan(1, 4), 0);
            e.due("LEAST " + n + ", both", x.now(3), 1);
        }
        RainShelves y = reads("p1 5 0 0;p1 4 0 0;", 2);
        e.due("LEAST at first", y.now(3), 1);
    }

    private void shelf() {
        e.of(Edges.PANS, "SHELF (10 .. 99 SPOONS on one; 60 at first).");
        e.due("at first", new RainShelves().count(2), 60);
        e.due("not told", reads("p1 1 1 1;", 1).count(2), 60);
        for (int n = 10; n <= 99; n++) {
            e.due("SHELF " + n, reads("s" + n + ";", 1).count(2), n);
        }
        fault("s9;", 1);
        fault("s 0;", 2);
        fault("s100;", 1);
        fault("s-10;", 1);
    }

    private void letters() {
        e.of(Edges.PANS, "They are a text (200 letters at most),");
        String item = "p1 2 3 0;l9;";
        String text = " ".repeat(200 - item.length()) + item;
        RainShelves x = new RainShelves();
        for (int i = 0; i < 200; i++) {
            e.due("letter " + (i + 1), x.type(text.charAt(i)), i + 1);
        }
        e.due("one more", x.type(' '), RainShelves.FULL);
        e.due("a full text is read", x.house(), 2);
        e.due("a full text is read to its end", x.count(1), 9);
        fault(" ".repeat(199) + "x", 199);
        fault(" ".repeat(199) + "p", 200);
        fault(" ".repeat(198) + "p9", 200);
        fault("p" + " ".repeat(199), 200);
    }

    private void letterByLetter() {
        e.of(Edges.PANS, "told letter by letter,");
        RainShelves x = new RainShelves();
        e.due("l", x.type('l'), 1);
        e.due("nothing is told yet", x.count(1), 5);
        e.due("1", x.type('1'), 2);
        e.due("a number goes on: 12", x.type('2'), 3);
        e.due("not ended", x.house(), -10 - 3);
        e.due("; behind a fault", x.type(';'), 4);
        e.due("now it tells", x.house(), 1);
        e.due("LEAST", x.count(1), 12);
    }

    private void blanks() {
        e.of(Edges.PANS, "blanks (32) between TOKENS;");
        reads("", 0);
        reads(" ", 0);
        reads(" ".repeat(200), 0);
        e.due("as few as can be", reads("p9 8 7 1;l6;s50;", 3).pan(0, 1), 7);
        e.due("one at each place", reads(" p 9 8 7 1 ; l 6 ; s 50 ; ", 3).pan(0, 1), 7);
        e.due("many", reads("   p   9   8   7   1   ;   l   6   ;   s   50   ;   ", 3).pan(0, 1), 7);
        // Without one two numbers are one, and the next comes too early.
        fault("p98 7 1;", 7);
        fault("p 9 8 71;", 6);
        fault("p 9 8 7;", 7);
        fault("p 9 87 1;", 4);
        fault("l 6 0;", 4);
        for (int other : new int[] {0, 9, 10, 11, 12, 13, 31, 33, 95, 133, 160, 255}) {
            fault("p9" + (char) other + "8 7 1;", 2);
        }
    }

    private void items() {
        e.of(Edges.PANS, "ITEMS, each ended by ; :");
        reads("l6;", 1);
        reads("l6;s50;", 2);
        reads(SEVEN + "l6;s50;", 9);
        reads("s50;" + SEVEN + "l6;", 9);
        fault("l6", 2);
        fault("l6 s50;", 3);
        fault("l6s50;", 2);
        fault("p1 1 1 1p1 1 1 1;", 8);
        fault("l6;s50", 6);
        fault("l6;;", 3);
        fault(";", 0);
        fault("l6;;s50;", 3);
    }

    private void onceEach() {
        e.of(Edges.PANS, "p Y N S T (a PAN: YEAR, SPOONS, SHRINKS, SORT) ; l N (LEAST), s N (SHELF; once at most each).");
        RainShelves x = reads("p4 3 2 1;", 1);
        e.due("YEAR comes first", x.pan(0, 0), 4);
        e.due("then SPOONS", x.pan(0, 3), 3);
        e.due("then SHRINKS", x.pan(0, 1), 2);
        e.due("then SORT", x.pan(0, 2), 1);
        RainShelves y = reads("l60;s99;", 2);
        e.due("LEAST once", y.count(1), 60);
        e.due("SHELF once", y.count(2), 99);
        fault("l60;l60;", 4);
        fault("l60;s99;l5;", 8);
        fault("s99;s99;", 4);
        fault("s99;l60;s10;", 8);
        // Told again in another text is not again.
        e.due("l in a new text", Check.tell(y, "l7;"), 1);
        e.due("s in a new text", Check.tell(y, "s70;"), 1);
        Check.tell(y, "l7;s70");
        e.due("and behind a fault", Check.tell(y, "l8;s80;"), 2);
    }

    private void tokens() {
        e.of(Edges.PANS, "TOKENS are the letters p, l, s, NUMBERS and ; .");
        reads("p0 0 0 0;l1;s10;", 3);
        for (char c : "PLS:,.-+'\"xo".toCharArray()) {
            fault("l6;" + c, 3);
        }
        fault("l1x;", 2);
        fault("l x1;", 2);
    }

    /** Each token of a whole text in turn is made one that can't stand there; worse ones behind do not count. */
    private void firstFault() {
        e.of(Edges.PANS, "FAULT: the place of the first letter of the first TOKEN that can't stand there");
        String[] whole = {"p", "12", "13", "4", "1", ";", "l", "14", ";", "s", "15", ";"};
        String kinds = "pnnnn;pn;pn;";
        for (int i = 0; i < whole.length; i++) {
            StringBuilder ahead = new StringBuilder();
            for (int j = 0; j < i; j++) ahead.append(whole[j]).append("  ");
            for (String wrong : new String[] {"p", "l", "s", "1", "2", ";"}) {
                boolean number = Character.isDigit(wrong.charAt(0));
                char kind = wrong.equals(";") ? ';' : number ? 'n' : 'p';
                if (kind == kinds.charAt(i)) continue;
                fault(ahead + wrong, ahead.length());
                fault(ahead + wrong + " ; ; 100 x 00", ahead.length());
            }
        }
        fault("5", 0);
        fault("   5", 3);
        fault("p p x", 2);
        fault("; x", 0);
        fault("x ;", 0);
    }

    private void tooMuchOfIt() {
        e.of(Edges.PANS, "(an eighth p, l, s again, a NUMBER beyond what it may be, too);");
        fault(SEVEN + "p", 63);
        fault(SEVEN + "  p1 1 1 1;", 65);
        fault(SEVEN + "p100 x", 63);
        fault(SEVEN + "l5;s10;p1 1 1 1;", 70);
        fault("l5;p1 1 1 1;l", 12);
        fault("l5; l 100", 4);
        fault("s10;p1 1 1 1; s5;", 14);
        fault(SEVEN + "l5;s10;l5;", 70);
        fault(SEVEN + "l5;s10;s10;", 70);
        fault("p99 61 10 3;", 4);
        fault("p99 60 10 3;", 7);
        fault("p99 60 9 3;", 9);
        fault("l 61;", 2);
        fault("l 0", 2);
        fault("s 9", 2);
    }

    private void otherLetters() {
        e.of(Edges.PANS, "of any other letter,");
        for (int c = 0; c < 256; c++) {
            if ("pls; 0123456789".indexOf((char) c) >= 0) continue;
            char other = (char) c;
            fault(other + "", 0);
            fault("p" + other + "1 1 1 1;", 1);
            fault("p1 1" + other + " 1 1;", 4);
            fault("p1 1 1 1 " + other + ";", 9);
            fault("l5;" + other, 3);
        }
    }

    private void numbersOfThreeDigits() {
        e.of(Edges.PANS, "a NUMBER above 99");
        String[] numbers = {"100", "101", "256", "257", "999", "1000", "65536", "65541", "2147483647", "2147483648",
            "4294967296", "4294967297", "4294967306", "18446744073709551617", "9".repeat(190),
            // The last digits alone would be right.
            "1" + "0".repeat(100) + "11"};
        for (String n : numbers) {
            fault("p" + n, 1);
            fault("l " + n + ";", 2);
            fault("s" + n + ";", 1);
        }
        fault("p1 1 1 256;", 7);
        fault("p1 1 256 1;", 5);
        fault("p1 256 1 1;", 3);
        // Where no number can stand it is that token's, too.
        fault("100", 0);
        fault("l5 100;", 3);
        reads("p99 1 1 1;s99;", 2);
    }

    private void zerosAhead() {
        e.of(Edges.PANS, "or with a 0 ahead of others, that TOKEN's;");
        fault("p00 1 1 1;", 1);
        fault("p01 1 1 1;", 1);
        fault("p1 00 1 1;", 3);
        fault("p1 1 09 1;", 5);
        fault("p1 1 1 02;", 7);
        fault("p1 1 1 00;", 7);
        fault("l05;", 1);
        fault("l 005;", 2);
        fault("s010;", 1);
        fault("s 0100;", 2);
        fault("00", 0);
        reads("p0 0 0 0;", 1);
        e.due("a 0 behind others", reads("p10 20 0 0;l30;s40;", 3).pan(0, 0), 10);
        // 0 0 are two numbers.
        fault("l 5 0;", 4);
    }

    private void endsTooEarly() {
        e.of(Edges.PANS, "the text's length, if it ends too early.");
        String text = "p 1 2 3 1 ; l 5 ; s 10 ;";
        for (int n = 1; n < text.length(); n++) {
            String part = text.substring(0, n);
            boolean whole = part.trim().endsWith(";");
            // 's 1' has a number that is too small: no early end.
            if (whole || part.endsWith("s 1")) continue;
            fault(part, n);
            fault(part + "    ", n + 4);
        }
        fault("s 1", 2);
        reads("p 1 2 3 1 ;", 1);
        reads("p 1 2 3 1 ; l 5 ;   ", 2);
    }
}

/** The sentences of THE TEXT: promises 1 to 4. */
final class TextSentences {
    private static final int BAD = Wards.BAD, STATE = Wards.STATE, FULL = Wards.FULL, NONE = Wards.NONE;
    private static final String SIX_ONES = "b1 1 1;b1 1 1;b1 1 1;b1 1 1;b1 1 1;b1 1 1;";

    private TextSentences() {
    }

    static void all() {
        newObject();
        type();
        clear();
        numbers();
        blanks();
        items();
        places();
        numberFaults();
        tooEarly();
        anew();
    }

    private static void due(String call, long got, long want) {
        Sentence.due(call, got, want);
    }

    private static int ward(String text) {
        WarmBottles x = new WarmBottles();
        Wards.type(x, text);
        return x.ward();
    }

    private static void reads(String text, int items) {
        due("ward() of \"" + text + "\"", ward(text), items);
    }

    private static void faultAt(String text, int place) {
        due("ward() of \"" + text + "\"", ward(text), -10 - place);
    }

    /** The fault is there, and a ward in which much has been done stays as it is, its text, too. */
    private static void refuses(String text, int place) {
        Sentence.changesNothing("ward() of \"" + text + "\"", () -> Wards.busyWithText(text),
                x -> x.ward(), -10 - place);
    }

    private static void newObject() {
        Sentence.holds(1, "As told; no BOTTLES.", () -> {
            WarmBottles x = new WarmBottles();
            due("bottles", x.count(0), 0);
            due("heard", x.count(3), 0);
            due("letters", x.count(4), 0);
            due("ALL", x.now(3), NONE);
            due("above 0", x.now(4), 0);
            due("may be undone", x.now(5), 0);
            due("trace()", x.trace(), 0);
            due("bottle(0, 0)", x.bottle(0, 0), BAD);
            due("undo()", x.undo(), STATE);
            due("back(0)", x.back(0), STATE);
            due("back(1)", x.back(1), STATE);
            due("ward() of no text", x.ward(), 0);
            WarmBottles told = Wards.told("b5 1 1;");
            Sentence.same("a new one is as one that was told nothing",
                    Wards.everything(WarmBottles::new), Wards.everything(Wards.of("")));
            Sentence.same("objects know nothing of one another",
                    Wards.everything(WarmBottles::new), Wards.everything(Wards.of("  ")));
            due("the other one's bottles", told.count(0), 1);
        });
        Sentence.holds(1, "KETTLE (0 .. 60 pints; 10 at first)", () -> {
            due("KETTLE as told", new WarmBottles().count(1), 10);
            due("what the KETTLE has", new WarmBottles().now(2), 10);
            due("told without k", Wards.told("p3;b1 1 1;").count(1), 10);
            due("so much is there", Wards.told("p3;b1 1 1;").now(2), 10);
        });
        Sentence.holds(1, "PINT (1 .. 30: how much warmer it makes; 10 at first)", () -> {
            due("PINT", new WarmBottles().count(2), 10);
            due("told without p", Wards.told("k3;b1 1 1;").count(2), 10);
            due("10 warmer", Wards.told("k3;b1 1 1;").fills(0, 1), 11);
        });
        Sentence.holds(1, "HOUR, FROST are 0 at first", () -> {
            due("HOUR", new WarmBottles().now(0), 0);
            due("FROST", new WarmBottles().now(1), 0);
            due("HOUR as told", Wards.told("b9 1 1;").now(0), 0);
            due("FROST as told", Wards.told("b9 1 1;").now(1), 0);
        });
    }

    private static void type() {
        Sentence.holds(2, "A letter (0 .. 255) comes to THE TEXT: how many it has.", () -> {
            for (int letter = 0; letter <= 255; letter++) {
                due("type(" + letter + ")", new WarmBottles().type(letter), 1);
            }
            for (int letter : new int[] {-1, 256, Wards.FAR, Wards.FAR_BELOW, -32, 256 + ';'}) {
                Sentence.changesNothing("type(" + letter + ")", Wards::busy, x -> x.type(letter), BAD);
            }
            WarmBottles x = new WarmBottles();
            due("first", x.type('k'), 1);
            due("second", x.type('2'), 2);
            due("third", x.type('9'), 3);
            due("fourth", x.type(';'), 4);
            due("one item", x.ward(), 1);
            due("in the order told", x.count(1), 29);
            due("first again behind ward()", x.type('k'), 1);
        });
        Sentence.holds(2, "They are a text (120 letters at most), told letter by letter", () -> {
            WarmBottles x = new WarmBottles();
            for (int letter = 1; letter <= 117; letter++) {
                due("letter " + letter, x.type(' '), letter);
            }
            due("letter 118", x.type('k'), 118);
            due("letter 119", x.type('7'), 119);
            due("letter 120", x.type(';'), 120);
            due("letter 121", x.type(';'), FULL);
            due("letter 122", x.type('b'), FULL);
            due("letters", x.count(4), 120);
            due("the refused are not read", x.ward(), 1);
            due("all 120 are", x.count(1), 7);
            due("room again", x.type(' '), 1);
        });
        Sentence.holds(2, "BAD; FULL.", () -> {
            String full = " ".repeat(116) + "b7 2";
            Sentence.changesNothing("type(' ') at 120", () -> Wards.busyWithText(full),
                    x -> x.type(' '), FULL);
            Sentence.changesNothing("type(0) at 120", () -> Wards.busyWithText(full),
                    x -> x.type(0), FULL);
            Sentence.changesNothing("type(255) at 120", () -> Wards.busyWithText(full),
                    x -> x.type(255), FULL);
            Sentence.changesNothing("type(256) at 120", () -> Wards.busyWithText(full),
                    x -> x.type(256), BAD);
            Sentence.changesNothing("type(-1) at 120", () -> Wards.busyWithText(full),
                    x -> x.type(-1), BAD);
        });
    }

    private static void clear() {
        Sentence.holds(3, "THE TEXT is empty: how many letters it had.", () -> {
            for (int letters : new int[] {0, 1, 2, 119, 120}) {
                WarmBottles x = new WarmBottles();
                Wards.type(x, "k".repeat(letters));
                due("clear() of " + letters, x.clear(), letters);
                due("letters", x.count(4), 0);
                due("clear() again", x.clear(), 0);
                due("ward() of nothing", x.ward(), 0);
                due("the next is the first", x.type('k'), 1);
            }
            Sentence.changesNothing("clear() of nothing", () -> Wards.busyWithText(""),
                    x -> x.clear(), 0);
            Sentence.same("the ward stays", Wards.everything(() -> Wards.busyWithText("")),
                    Wards.everything(() -> {
                        WarmBottles x = Wards.busyWithText("k9;b1");
                        x.clear();
                        return x;
                    }));
        });
    }

    private static void numbers() {
        Sentence.holds(4, "(6 at most)", () -> {
            String text = "";
            for (int bottles = 0; bottles <= 6; bottles++) {
                due("bottles", Wards.told(text).count(0), bottles);
                text += "b1 1 1;";
            }
            reads(SIX_ONES + "k1;p1;", 8);
            refuses(SIX_ONES + "b1 1 1;", 42);
            due("six of other bottles", Wards.told(Wards.SIX).bottle(5, 0), 40);
        });
        Sentence.holds(4, "WARM (0 .. 99)", () -> {
            for (int warm = 0; warm <= 99; warm++) {
                due("b" + warm, Wards.told("b" + warm + " 1 1;").bottle(0, 0), warm);
            }
            refuses("b100 1 1;", 1);
            refuses("b 1 1 1;b  100 1 1;", 11);
        });
        Sentence.holds(4, "COOLS (1 .. 9 an hour)", () -> {
            for (int cools = 1; cools <= 9; cools++) {
                due("b1 " + cools, Wards.told("b1 " + cools + " 1;").bottle(0, 1), cools);
            }
            refuses("b1 0 1;", 3);
            refuses("b1 10 1;", 3);
            refuses("b1 99 1;", 3);
            refuses("b1 100 1;", 3);
        });
        Sentence.holds(4, "SPEAKS (0 .. 99", () -> {
            for (int speaks = 0; speaks <= 99; speaks++) {
                due("b1 1 " + speaks, Wards.told("b1 1 " + speaks + ";").bottle(0, 2), speaks);
            }
            refuses("b1 1 100;", 5);
        });
        Sentence.holds(4, "KETTLE (0 .. 60 pints", () -> {
            for (int kettle = 0; kettle <= 60; kettle++) {
                due("k" + kettle, Wards.told("k" + kettle + ";").count(1), kettle);
                due("what it has", Wards.told("k" + kettle + ";").now(2), kettle);
            }
            refuses("k61;", 1);
            refuses("k99;", 1);
            refuses("k100;", 1);
        });
        Sentence.holds(4, "PINT (1 .. 30", () -> {
            for (int pint = 1; pint <= 30; pint++) {
                due("p" + pint, Wards.told("p" + pint + ";").count(2), pint);
                due("makes warmer", Wards.told("b0 1 1;p" + pint + ";").fills(0, 1), pint);
            }
            refuses("p0;", 1);
            refuses("p31;", 1);
            refuses("p100;", 1);
        });
    }

    private static void blanks() {
        Sentence.holds(4, "blanks (32), any number, ahead of, between, behind TOKENS", () -> {
            for (String some : new String[] {" ", "  ", "       "}) {
                reads(some, 0);
                reads(some + "b1 2 3;", 1);
                reads("b1 2 3;" + some, 1);
                reads("b" + some + "1 2 3;", 1);
                reads("b1" + some + "2 3;", 1);
                reads("b1 2" + some + "3;", 1);
                reads("b1 2 3" + some + ";", 1);
                reads("k1;" + some + "p2;", 2);
                reads("k" + some + "1;p" + some + "2;", 2);
                reads("k1" + some + ";p2" + some + ";", 2);
            }
            reads(" ".repeat(113) + "b1 2 3;", 1);
            reads("b1 2 3;" + " ".repeat(113), 1);
            reads("b" + " ".repeat(113) + "1 2 3;", 1);
            WarmBottles x = Wards.told("  b  5   2    3  ;  k  7  ;  p  4  ;  ");
            due("as without", x.bottle(0, 0) * 1000 + x.count(1) * 10 + x.count(2), 5074);
            for (int letter : new int[] {0, 9, 10, 11, 12, 13, 31, 33, 95, 133, 160, 255}) {
                faultAt((char) letter + "k1;", 0);
                faultAt("k" + (char) letter + "1;", 1);
                faultAt("k1" + (char) letter + ";", 2);
                faultAt("k1;" + (char) letter, 3);
            }
        });
        Sentence.holds(4, "(needed only between two NUMBERS)", () -> {
            reads("b1 2 3;k5;p6;b4 5 6;", 4);
            faultAt("b12 3;", 5);
            faultAt("b1 23;", 3);
            faultAt("b123;", 1);
            due("12 is no 1 and 2", Wards.told("b12 3 4;").bottle(0, 0), 12);
            faultAt("k5 5;", 3);
            faultAt("k 6 0;", 4);
            faultAt("b1 1 9 9;", 7);
        });
    }

    private static void items() {
        Sentence.holds(4, "ITEMS (none, too), each ended by ;", () -> {
            reads("", 0);
            reads(" ", 0);
            reads("k1;", 1);
            reads("k1;p1;", 2);
            reads(SIX_ONES + "k1;p1;", 8);
            refuses(";", 0);
            refuses("k1;;", 3);
            refuses("k1 p1;", 3);
            refuses("p1 k1;", 3);
            refuses("k1 b1 1 1;", 3);
            refuses("b1 1 1 k1;", 7);
            refuses("b1 1 1 b1 1 1;", 7);
            refuses("k1", 2);
            refuses("b1 1 1", 6);
        });
        Sentence.holds(4, ": b W C S (the next BOTTLE) ; k N (KETTLE), p N (PINT; once at most each).", () -> {
            WarmBottles x = Wards.told("b11 2 33;p4;b44 5 66;k7;b77 8 99;");
            int[][] dues = {{11, 2, 33}, {44, 5, 66}, {77, 8, 99}};
            for (int b = 0; b < 3; b++) {
                for (int what = 0; what < 3; what++) {
                    due("bottle(" + b + ", " + what + ")", x.bottle(b, what), dues[b][what]);
                }
            }
            due("KETTLE", x.count(1), 7);
            due("PINT", x.count(2), 4);
            reads("k1;p1;", 2);
            reads("p1;k1;", 2);
            refuses("k1;k1;", 3);
            refuses("k1;k2;", 3);
            refuses("k0;k0;", 3);
            refuses("k10;k10;", 4);
            refuses("p1;p1;", 3);
            refuses("p10;p9;", 4);
            refuses("k1;p1;k1;", 6);
            refuses("k1;p1;p1;", 6);
            refuses("p1;b1 1 1;p1;", 10);
            Wards.type(x, "k3;p3;k3;");
            due("k twice", x.ward(), -16);
            x.clear();
            Wards.type(x, "p5;k6;");
            due("each once in the next text, too", x.ward(), 2);
        });
    }

    private static final String[] TOKENS = {"b", "k", "p", ";", "0", "5", "9", "10", "30", "31", "60",
        "61", "99", "100", "05", "x", ""};
    // Each reading so far, and the tokens that can stand behind it; "-" is the end.
    private static final String[][] STANDS = {
        {"", "b k p -"},
        {"b", "0 5 9 10 30 31 60 61 99"},
        {"b1 ", "5 9"},
        {"b1 1 ", "0 5 9 10 30 31 60 61 99"},
        {"b1 1 1 ", ";"},
        {"b1 1 1;", "b k p -"},
        {"k", "0 5 9 10 30 31 60"},
        {"k1 ", ";"},
        {"k1;", "b p -"},
        {"p", "5 9 10 30"},
        {"p1 ", ";"},
        {"p1;", "b k -"},
        {"p1;k1;", "b -"},
        {SIX_ONES, "k p -"},
        {SIX_ONES + "k1;", "p -"},
        {SIX_ONES + "p1;", "k -"},
        {SIX_ONES + "p1;k1;", "-"},
    };

    private static void places() {
        Sentence.holds(4, "FAULT: the place of the first letter of the first TOKEN that can't stand there", () -> {
            for (String[] reading : STANDS) {
                String can = " " + reading[1] + " ";
                for (String token : TOKENS) {
                    tokenBehind(reading[0], token, can.contains(" " + (token.isEmpty() ? "-" : token) + " "));
                    if (!token.isEmpty()) {
                        tokenBehind(reading[0] + "   ", token, can.contains(" " + token + " "));
                    }
                }
            }
            faultAt("k61;k61;", 1);
            faultAt("k60;k61;", 4);
            faultAt("  k5 ; b1 0 x", 10);
            refuses("x", 0);
            refuses("k1;   x", 6);
        });
        Sentence.holds(4, "(a seventh b, k, p again, a NUMBER beyond what it may be, too)", () -> {
            refuses(SIX_ONES + "b", 42);
            refuses(SIX_ONES + "  b1 1 1;", 44);
            refuses(SIX_ONES + "p1; b", 46);
            refuses("k1;k", 3);
            refuses("k1;  k", 5);
            refuses("p1;p", 3);
            refuses("p1;  p", 5);
            refuses("k 61;", 2);
            refuses("p 31;", 2);
            refuses("p  0;", 3);
            refuses("b1 10 ;", 3);
            refuses("b1   0 ;", 5);
        });
        Sentence.holds(4, "TOKENS are the letters b, k, p, NUMBERS and ; .", () -> {
            for (int letter = 0; letter <= 255; letter++) {
                boolean stands = letter == 'b' || letter == 'k' || letter == 'p' || letter == ' ';
                due("letter " + letter, ward((char) letter + ""), stands && letter != ' ' ? -11
                        : stands ? 0 : -10);
            }
        });
        Sentence.holds(4, "of any other letter", () -> {
            for (int letter = 0; letter <= 255; letter++) {
                if ("bkp; 0123456789".indexOf(letter) < 0) {
                    for (String ahead : new String[] {"", "b", "b1", "b1 ", "b1 2", "b1 2 3", "b1 2 3;",
                        "k", "k1", "k1;", "p", "p1", "p1;"}) {
                        faultAt(ahead + (char) letter, ahead.length());
                        faultAt(ahead + "  " + (char) letter + (char) letter + "1", ahead.length() + 2);
                    }
                }
            }
            refuses("B1 1 1;", 0);
            refuses("b-1 1 1;", 1);
            refuses("b1,1", 2);
            refuses("k5x;", 2);
        });
    }

    private static void tokenBehind(String reading, String token, boolean stands) {
        int answer = ward(reading + token);
        int fault = -10 - reading.length();
        if (stands) {
            Check.isTrue("promise 4: \"" + token + "\" can stand behind \"" + reading + "\"",
                    token.isEmpty() ? answer >= 0 : answer >= 0 || answer < fault);
        } else {
            faultAt(reading + token, reading.length());
            if (!token.isEmpty()) {
                faultAt(reading + token + " x", reading.length());
            }
        }
    }

    private static void numberFaults() {
        Sentence.holds(4, "a NUMBER above 99", () -> {
            reads("b99 1 99;", 1);
            // The last ones are 0, 5 and 1 again for who reckons with 32 or 64 bits alone.
            for (String number : new String[] {"100", "101", "199", "999", "1000", "4294967296",
                "4294967301", "2147483648", "99999999999", "18446744073709551617",
                "1000000000000000000000000000000"}) {
                faultAt("b" + number + " 1 1;", 1);
                faultAt("b1 " + number + " 1;", 3);
                faultAt("b1 1  " + number + ";", 6);
                faultAt("k" + number + ";", 1);
                faultAt("p  " + number + ";", 3);
            }
            faultAt("k" + "1".repeat(119), 1);
            faultAt("100", 0);
            faultAt("k1 100", 3);
            refuses("k1;b 100 1 1;", 5);
        });
        Sentence.holds(4, "or with a 0 ahead of others", () -> {
            reads("k0;", 1);
            reads("b0 1 0;", 1);
            for (String number : new String[] {"00", "01", "05", "09", "010", "000", "0000000005", "0100"}) {
                faultAt("b" + number + " 1 1;", 1);
                faultAt("b1 " + number + " 1;", 3);
                faultAt("b1 1  " + number + ";", 6);
                faultAt("k" + number + ";", 1);
                faultAt("p " + number + ";", 2);
                faultAt(number, 0);
            }
            reads("k10;p20;b30 9 40;", 3);
            refuses("k 05;", 2);
            refuses("p1;b00 1 1;", 4);
        });
        Sentence.holds(4, ", that TOKEN's", () -> {
            faultAt("k 100x", 2);
            faultAt("k 05x", 2);
            faultAt("k1 x100", 3);
            faultAt("xk", 0);
            faultAt("kk05", 1);
            faultAt("k5;x;k", 3);
            faultAt("k5;k;x", 3);
        });
    }

    private static void tooEarly() {
        Sentence.holds(4, "the text's length, if it ends too early.", () -> {
            for (String text : new String[] {"b", "b1", "b1 1", "b1 1 1", "k", "k1", "p", "p1"}) {
                for (String ahead : new String[] {"", "  ", "b2 2 2; "}) {
                    for (String behind : new String[] {"", " ", "     "}) {
                        String all = ahead + text + behind;
                        faultAt(all, all.length());
                    }
                }
                refuses(text + " ", text.length() + 1);
            }
            faultAt(" ".repeat(119) + "k", 120);
            faultAt("k" + " ".repeat(119), 120);
            faultAt(" ".repeat(118) + "k5", 120);
            reads(" ".repeat(117) + "k5;", 1);
            reads(" ".repeat(120), 0);
        });
        Sentence.holds(4, "-10 less FAULT: nothing changes (THE TEXT stays, too).", () -> {
            faultAt("x", 0);
            faultAt(" ".repeat(119) + "x", 119);
            faultAt(" ".repeat(119) + "b", 120);
            refuses("b1 1 1;k5;p5;x", 13);
            refuses(" ".repeat(119) + "x", 119);
            WarmBottles x = new WarmBottles();
            Wards.type(x, "k5");
            due("ward()", x.ward(), -12);
            due("letters", x.count(4), 2);
            due("ward() again", x.ward(), -12);
            due("it goes on", x.type(';'), 3);
            due("ward()", x.ward(), 1);
            due("KETTLE", x.count(1), 5);
        });
    }

    private static void anew() {
        Sentence.holds(4, "THE TEXT tells all anew, and is empty then: how many ITEMS.", () -> {
            for (String text : new String[] {"", "k7;", "b9 2 9;p3;", Wards.SIX}) {
                int items = text.length() - text.replace(";", "").length();
                WarmBottles x = Wards.busyWithText(text);
                due("ward() of \"" + text + "\"", x.ward(), items);
                due("letters", x.count(4), 0);
                due("ward() again: nothing is told", x.ward(), 0);
                due("no bottles then", x.count(0), 0);
            }
        });
        Sentence.holds(4, "(Read anew: as told (what is not told as at first), nothing HEARD, IMAGES are gone,"
                + " nothing can be UNDONE; THE TRACE goes on", () -> {
            for (String text : new String[] {"", "k7;", "p3;", "b9 2 9;", "k7;b9 2 9;b8 1 8;p3;", Wards.SIX}) {
                // The same of an object that was told nothing else, but for the trace.
                Sentence.same("as told: " + text, Wards.everything(() -> {
                    WarmBottles x = Wards.busyWithText(text);
                    x.keep(0);
                    x.ward();
                    return x;
                }), Wards.everything(() -> {
                    WarmBottles x = Wards.told("b1 1 1;");
                    x.rate(4, 0);
                    Wards.type(x, text);
                    x.ward();
                    return x;
                }));
            }
            WarmBottles x = Wards.busyWithText("b9 2 9;");
            x.keep(0);
            x.ward();
            due("bottles", x.count(0), 1);
            due("KETTLE as at first", x.count(1), 10);
            due("what it has", x.now(2), 10);
            due("PINT as at first", x.count(2), 10);
            due("HOUR", x.now(0), 0);
            due("FROST", x.now(1), 0);
            due("HEARD", x.count(3), 0);
            due("may be undone", x.now(5), 0);
            due("undo()", x.undo(), STATE);
            due("back(0)", x.back(0), STATE);
            due("back(1)", x.back(1), STATE);
            due("trace()", x.trace(), 10101);
        });
        Sentence.holds(4, "each BOTTLE lies in the BED of its number.", () -> {
            WarmBottles x = Wards.told(Wards.SIX);
            for (int b = 0; b < 6; b++) {
                due("BED of " + b, x.bottle(b, 3), b);
                x.lays(b, (b + 1) % 6);
            }
            Wards.type(x, Wards.SIX);
            x.ward();
            for (int b = 0; b < 6; b++) {
                due("BED of " + b + " anew", x.bottle(b, 3), b);
            }
        });
    }
}

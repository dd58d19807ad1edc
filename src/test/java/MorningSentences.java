import java.util.function.Supplier;
import java.util.function.ToLongFunction;

/** The sentences of what will be till morning: promises 14 to 17. */
final class MorningSentences {
    private static final int BAD = Wards.BAD, NONE = Wards.NONE;
    private static final int[] NO_BOTTLES = {4, 5, 6, Wards.FAR, Wards.FAR_BELOW};
    private static final String[] WAYS_TEXTS = {"b9 3 1;", "b20 3 1;b20 3 1;", "b6 1 1;b12 3 1;b12 3 1;",
        "b0 1 1;b12 3 1;b12 3 1;", "b50 9 1;b5 1 1;b30 7 1;b20 5 1;", "b99 9 1;b98 8 1;b97 7 1;b96 6 1;b95 5 1;",
        Wards.SIX, "b9 9 1;b9 9 1;b9 9 1;b9 9 1;b9 9 1;b9 9 1;", "b99 1 1;b99 1 1;b99 1 1;b99 1 1;b99 1 1;b99 1 1;"};

    private MorningSentences() {
    }

    static void all() {
        nothingIsChanged();
        morning();
        morningOfAll();
        kept();
        keptFirst();
        beds();
        odds();
        oddsOfFrost();
    }

    private static void due(String call, long got, long want) {
        Sentence.due(call, got, want);
    }

    private static void refused(String call, Supplier<WarmBottles> made,
            ToLongFunction<WarmBottles> ask, long want) {
        Sentence.changesNothing(call, made, ask, want);
    }

    private static void nothingIsChanged() {
        Sentence.holds(14, "(As things are NOW; nothing is changed.)", () -> {
            Sentence.changesNothing("bottle(0, 5)", Wards::busy, x -> x.bottle(0, 5), 7);
            Sentence.changesNothing("now(3)", Wards::busy, x -> x.now(3), 0);
            Sentence.changesNothing("morning(7, 0)", Wards::busy, x -> x.morning(7, 0), 1);
            Sentence.changesNothing("morning(7, -1)", Wards::busy, x -> x.morning(7, -1), NONE);
            Sentence.changesNothing("morning(5, -1)", Wards::busy, x -> x.morning(5, -1), 8);
            Sentence.changesNothing("kept(0)", Wards::busy, x -> x.kept(0), 0);
            Sentence.changesNothing("kept(1)", Wards::busy, x -> x.kept(1), NONE);
            Sentence.changesNothing("beds(-1)", Wards::busy, x -> x.beds(-1), 0);
            Sentence.changesNothing("beds(1)", Wards::busy, x -> x.beds(1), 0);
            Sentence.changesNothing("odds(0, 5, 8, 0)", Wards::busy, x -> x.odds(0, 5, 8, 0), 0);
            Sentence.changesNothing("odds(0, 5, 5, 1)", Wards::busy, x -> x.odds(0, 5, 5, 1), 2);
            Sentence.changesNothing("who()", Wards::busy, x -> x.who(), 6);
            Sentence.changesNothing("listen()", Wards::busy, x -> x.listen(), 6);
            Supplier<WarmBottles> warm = Wards.of("b20 3 10;b9 1 4;b5 2 9;k2;p3;");
            Sentence.changesNothing("kept(0) of warm ones", warm, x -> x.kept(0), 4);
            Sentence.changesNothing("kept(1) of warm ones", warm, x -> x.kept(1), 2);
            Sentence.changesNothing("beds(-1) of warm ones", warm, x -> x.beds(-1), 5);
        });
    }

    private static void morning() {
        Sentence.holds(14, "MORNING in n (1 .. 40) HOURS", () -> {
            due("n 1", Wards.told("b1 1 1;").morning(1, 0), 1);
            due("n 1", Wards.told("b2 1 1;").morning(1, 0), 0);
            due("n 40", Wards.told("b40 1 1;").morning(40, 0), 1);
            due("n 39", Wards.told("b40 1 1;").morning(39, 0), 0);
            due("n 40", Wards.told("b41 1 1;").morning(40, 0), 0);
            due("n 40 of all", Wards.told("b41 1 1;").morning(40, -1), 0);
            for (int n : new int[] {0, -1, 41, Wards.FAR, Wards.FAR_BELOW}) {
                refused("morning(" + n + ", 0)", Wards::busy, x -> x.morning(n, 0), BAD);
                refused("morning(" + n + ", -1)", Wards::busy, x -> x.morning(n, -1), BAD);
                due("of none", new WarmBottles().morning(n, -1), BAD);
            }
        });
        Sentence.holds(14, ": the fewest pints for a BOTTLE, filled NOW (9 at most),"
                + " by which it is above 0 WARM behind n HOURS", () -> {
            WarmBottles x = Wards.told("b0 1 1;p1;b9 1 1;");
            for (int n = 1; n <= 8; n++) {
                due("0 WARM, n " + n, x.morning(n, 0), n + 1);
                due("9 WARM, n " + n, x.morning(n, 1), 0);
            }
            due("9 pints are too few", x.morning(9, 0), NONE);
            due("9 less 9", x.morning(9, 1), 1);
            due("18 less 17", x.morning(17, 1), 9);
            due("18 less 18", x.morning(18, 1), NONE);
            x = Wards.told("b20 3 5;p4;");
            due("20 less 18", x.morning(6, 0), 0);
            due("24 less 21", x.morning(7, 0), 1);
            due("24 less 24", x.morning(8, 0), 2);
            due("28 less 27", x.morning(9, 0), 2);
            due("28 less 30", x.morning(10, 0), 3);
            due("56 less 54", x.morning(18, 0), 9);
            due("56 less 57", x.morning(19, 0), NONE);
            x = Wards.told("b60 9 1;p30;");
            due("99 less 90: as filled NOW, 99 at most", x.morning(10, 0), 2);
            due("99 less 99", x.morning(11, 0), NONE);
            x = Wards.told("b99 3 1;p30;");
            due("99 less 96", x.morning(32, 0), 0);
            due("99 less 99", x.morning(33, 0), NONE);
            x = Wards.told("b20 3 5;b30 1 1;b30 1 1;");
            x.frosts(7);
            due("in frost: 20 less 20", x.morning(2, 0), 1);
            x.lays(1, 0);
            x.lays(2, 0);
            due("beside two: 20 less 12", x.morning(2, 0), 0);
            due("beside two: 20 less 24", x.morning(4, 0), 1);
        });
        Sentence.holds(14, "NONE (9 are too few for it, for one of them).", () -> {
            due("9 by 10", Wards.told("b0 9 1;").morning(9, 0), 9);
            due("more", Wards.told("b0 9 1;").morning(10, 0), NONE);
            WarmBottles x = Wards.told("b0 9 1;b90 1 1;b0 9 1;b90 9 1;");
            int[] dues = {NONE, 0, NONE, 1};
            for (int b = 0; b < 4; b++) {
                due("for " + b, x.morning(10, b), dues[b]);
            }
            due("for one of all", x.morning(10, -1), NONE);
            due("for none of all", x.morning(9, -1), 18);
        });
        Sentence.holds(14, "MORNING: for a BOTTLE, of all (b = -1); NONE. BAD.", () -> {
            for (int b : NO_BOTTLES) {
                refused("morning(1, " + b + ")", Wards::busy, x -> x.morning(1, b), BAD);
            }
            refused("morning(1, -2)", Wards::busy, x -> x.morning(1, -2), BAD);
            refused("morning(1, 0) of none", WarmBottles::new, x -> x.morning(1, 0), BAD);
            refused("morning(1, -2) of none", WarmBottles::new, x -> x.morning(1, -2), BAD);
            due("morning(5, 5) of six", Wards.told(Wards.SIX).morning(5, 5), 1);
            due("morning(5, 6) of six", Wards.told(Wards.SIX).morning(5, 6), BAD);
            due("BAD, where NONE would be", Wards.told("b0 9 1;").morning(40, 1), BAD);
        });
    }

    private static void morningOfAll() {
        Sentence.holds(14, "; of all BOTTLES together (the KETTLE does not matter)", () -> {
            due("no bottles", new WarmBottles().morning(1, -1), 0);
            due("no bottles", new WarmBottles().morning(40, -1), 0);
            due("one", Wards.told("b0 1 1;p1;").morning(4, -1), 5);
            due("3 and 0 and 5", Wards.told("b2 1 1;b9 1 1;b0 1 1;p1;").morning(4, -1), 8);
            String six = "b0 1 1;b0 1 1;b0 1 1;b0 1 1;b0 1 1;b0 1 1;p1;";
            due("9 for each of six", Wards.told(six).morning(8, -1), 54);
            due("9 are too few for each", Wards.told(six).morning(9, -1), NONE);
            for (int kettle : new int[] {0, 1, 53, 60}) {
                due("KETTLE " + kettle, Wards.told(six + "k" + kettle + ";").morning(8, -1), 54);
                due("of one, KETTLE " + kettle, Wards.told(six + "k" + kettle + ";").morning(8, 3), 9);
            }
            for (int b = 0; b < 6; b++) {
                WarmBottles x = Wards.told("b9 1 1;b9 1 1;b9 1 1;b9 1 1;b9 1 1;b9 1 1;p1;k20;");
                x.spills(b);
                due("one of six that is cold: " + b, x.morning(8, -1), 9);
                due("too few for that one: " + b, x.morning(9, -1), NONE);
            }
        });
    }

    private static void kept() {
        Sentence.holds(15, "KEPT: how many HOURS (what = 0; NONE: no BOTTLES), with whom to begin"
                + " (1; 6; NONE). BAD.", () -> {
            due("kept(0) of none", new WarmBottles().kept(0), NONE);
            due("kept(1) of none", new WarmBottles().kept(1), NONE);
            for (int what : new int[] {-1, 2, Wards.FAR, Wards.FAR_BELOW}) {
                refused("kept(" + what + ")", Wards::busy, x -> x.kept(what), BAD);
                refused("kept(" + what + ") of none", WarmBottles::new, x -> x.kept(what), BAD);
            }
        });
        Sentence.holds(15, "KEPT: HOUR by HOUR from now on, ahead of each one BOTTLE at most is filled by one pint", () -> {
            due("one of two", Wards.told("b1 1 1;b1 1 1;").kept(0), 0);
            due("one of two that need it, then the other", Wards.told("b1 1 1;b2 1 1;").kept(0), 4);
            due("two that need it at once, an hour on", Wards.told("b2 1 1;b2 1 1;b2 1 1;").kept(0), 1);
            due("by 9: 0 and 9 less 9", Wards.told("b0 9 1;p9;").kept(0), 0);
            due("by 10: 0 and 10 less 9", Wards.told("b0 9 1;p10;").kept(0), 4);
            due("1 and 1 less 1, each hour", Wards.told("b1 1 1;p1;").kept(0), 4);
            due("ahead of the hour: a cold one", Wards.told("b0 1 1;p2;").kept(0), 4);
            WarmBottles x = Wards.told("b3 3 1;b3 3 1;k0;");
            due("each in its own BED", x.kept(0), 0);
            x.lays(0, 1);
            due("both in one", x.kept(0), 2);
            x.frosts(2);
            due("in frost", x.kept(0), 0);
        });
        Sentence.holds(15, "(if the KETTLE has one yet)", () -> {
            for (int kettle = 0; kettle <= 6; kettle++) {
                due("KETTLE " + kettle, Wards.told("b99 1 1;b3 3 1;p3;k" + kettle + ";").kept(0), Math.min(4, kettle));
            }
            WarmBottles x = Wards.told("b99 1 1;b3 3 1;p3;k9;");
            x.fills(0, 8);
            due("what it has, not as told", x.kept(0), 1);
        });
        Sentence.holds(15, ": the most HOURS (0 .. 4) behind each of which all are above 0 WARM", () -> {
            for (int warm = 0; warm <= 6; warm++) {
                due("b" + warm + " 1, none to fill with", Wards.told("b" + warm + " 1 1;k0;").kept(0),
                        Math.max(0, Math.min(4, warm - 1)));
                due("and one that is warm", Wards.told("b9 1 1;b" + warm + " 1 1;k0;").kept(0),
                        Math.max(0, Math.min(4, warm - 1)));
            }
            due("4 at most", Wards.told("b99 1 1;").kept(0), 4);
            due("two cold", Wards.told("b0 1 1;b0 1 1;").kept(0), 0);
            due("six", Wards.told(Wards.SIX + "k1;").kept(0), 4);
            due("six, one pint an hour", Wards.told("b3 2 1;b3 2 1;b3 2 1;b3 2 1;b3 2 1;b3 2 1;").kept(0), 1);
        });
    }

    private static void keptFirst() {
        Sentence.holds(15, "; with whom to begin: the lowest BOTTLE by filling which first as many can be;", () -> {
            for (int b = 0; b < 6; b++) {
                WarmBottles x = Wards.told("b9 1 1;b9 1 1;b9 1 1;b9 1 1;b9 1 1;b9 1 1;k8;");
                x.spills(b);
                due("the cold one", x.kept(1), b);
                due("as many", x.kept(0), 4);
            }
            due("all the same: the lowest", Wards.told("b9 1 1;b9 1 1;b9 1 1;").kept(1), 0);
            due("one", Wards.told("b1 1 1;").kept(1), 0);
            due("the first can wait, the second can't", Wards.told("b2 1 1;b1 1 1;").kept(1), 1);
            due("the second can wait", Wards.told("b1 1 1;b2 1 1;").kept(1), 0);
            due("by the second only: 2 hours", Wards.told("b99 1 1;b4 3 1;k1;p3;").kept(0), 2);
            due("by the second only", Wards.told("b99 1 1;b4 3 1;k1;p3;").kept(1), 1);
            due("by any: 1 hour", Wards.told("b99 1 1;b4 3 1;k1;p2;").kept(0), 1);
            due("by any", Wards.told("b99 1 1;b4 3 1;k1;p2;").kept(1), 0);
        });
        Sentence.holds(15, "6: with nobody (if by filling no BOTTLE first as many can be);", () -> {
            due("none to fill with", Wards.told("b9 1 1;k0;").kept(1), 6);
            due("4 hours", Wards.told("b9 1 1;k0;").kept(0), 4);
            due("one pint", Wards.told("b9 1 1;k1;").kept(1), 0);
            due("one hour", Wards.told("b4 3 1;b9 3 1;k0;").kept(1), 6);
            due("six", Wards.told(Wards.SIX + "k0;").kept(1), 6);
            WarmBottles x = Wards.told("b9 1 1;k9;");
            x.fills(0, 9);
            due("the KETTLE is empty now", x.kept(1), 6);
            x.boils();
            due("and full again", x.kept(1), 0);
        });
        Sentence.holds(15, "NONE (0 HOURS, no BOTTLES).", () -> {
            due("no bottles", Wards.told("k9;").kept(1), NONE);
            due("0 hours", Wards.told("b1 1 1;k0;").kept(1), NONE);
            due("0 hours are 0", Wards.told("b1 1 1;k0;").kept(0), 0);
            due("1 hour", Wards.told("b2 1 1;k0;").kept(1), 6);
            due("0 hours, a full KETTLE", Wards.told("b1 1 1;b1 1 1;k60;").kept(1), NONE);
        });
    }

    private static void beds() {
        Sentence.holds(16, "BEDS: ALL (b = -1), the BED of a BOTTLE; NONE. BAD.", () -> {
            due("beds(-1) of none", new WarmBottles().beds(-1), NONE);
            refused("beds(0) of none", WarmBottles::new, x -> x.beds(0), BAD);
            for (int b : NO_BOTTLES) {
                refused("beds(" + b + ")", Wards::busy, x -> x.beds(b), BAD);
            }
            refused("beds(-2)", Wards::busy, x -> x.beds(-2), BAD);
            due("beds(3) of four", Wards.busy().beds(3), 0);
            due("beds(5) of six", Wards.told(Wards.SIX).beds(5), 0);
            due("beds(6) of six", Wards.told(Wards.SIX).beds(6), BAD);
        });
        Sentence.holds(16, "BEDS: of all ways to lay the BOTTLES together (BOTTLE 0 in BED 0, each other one with"
                + " one of lower number, or in the next new BED) that by which ALL is greatest, of several the first"
                + " (BOTTLE by BOTTLE, the lowest BED): how great ALL is; in which BED a BOTTLE lies;", () -> {
            for (String text : WAYS_TEXTS) {
                for (int frost : new int[] {0, 1, 9}) {
                    asOfAllWays(text, frost);
                }
            }
        });
        Sentence.holds(16, "how great ALL is", () -> {
            due("20 by 1", Wards.told("b20 3 1;b20 3 1;").beds(-1), 20);
            due("20 by 3 alone", Wards.told("b20 3 1;").beds(-1), 7);
            due("20 by 2", Wards.told("b20 4 1;b20 4 1;").beds(-1), 10);
            due("99 by 1", Wards.told("b99 1 1;").beds(-1), 99);
            due("a cold one", Wards.told("b99 1 1;b0 1 1;").beds(-1), 0);
            WarmBottles x = Wards.told("b20 3 1;b20 3 1;");
            x.lays(1, 0);
            due("where they lie now is nothing to it", x.beds(-1), 20);
            x.frosts(3);
            due("FROST is", x.beds(-1), 5);
        });
        Sentence.holds(16, "NONE (no BOTTLES).", () -> {
            due("no bottles", Wards.told("k9;").beds(-1), NONE);
            due("one cold bottle", Wards.told("b0 1 1;").beds(-1), 0);
            due("its BED", Wards.told("b0 1 1;").beds(0), 0);
        });
    }

    /** Lays the bottles in every way, and asks how long all last. */
    private static void asOfAllWays(String text, int frost) {
        int bottles = text.length() - text.replace(";", "").length();
        int[] way = new int[bottles];
        int[] first = new int[bottles];
        int greatest = -1;
        boolean more = true;
        while (more) {
            WarmBottles x = Wards.told(text);
            x.frosts(frost);
            for (int b = 0; b < bottles; b++) {
                x.lays(b, way[b]);
            }
            if (x.now(3) > greatest) {
                greatest = x.now(3);
                first = way.clone();
            }
            more = nextWay(way);
        }
        WarmBottles x = Wards.told(text);
        x.frosts(frost);
        due("beds(-1) of " + text, x.beds(-1), greatest);
        for (int b = 0; b < bottles; b++) {
            due("beds(" + b + ") of " + text, x.beds(b), first[b]);
        }
    }

    private static boolean nextWay(int[] way) {
        for (int b = way.length - 1; b > 0; b--) {
            int highest = 0;
            for (int lower = 0; lower < b; lower++) {
                highest = Math.max(highest, way[lower]);
            }
            if (way[b] <= highest) {
                way[b]++;
                return true;
            }
            way[b] = 0;
        }
        return false;
    }

    private static void odds(String text, int x, int n, int upper, int lower) {
        WarmBottles ward = Wards.told(text);
        due("odds(0, " + x + ", " + n + ", 0) of " + text, ward.odds(0, x, n, 0), upper);
        due("odds(0, " + x + ", " + n + ", 1) of " + text, ward.odds(0, x, n, 1), lower);
    }

    private static void odds() {
        Sentence.holds(17, "ODDS by x (0 .. 10), n (0 .. 8) for a BOTTLE", () -> {
            int[][] square = {{1, 1}, {81, 100}, {16, 25}, {49, 100}, {9, 25}, {1, 4}, {4, 25}, {9, 100}, {1, 25},
                {1, 100}, {0, 1}};
            for (int x = 0; x <= 10; x++) {
                odds("b10 3 1;", x, 0, 1, 1);
                odds("b10 3 1;", x, 1, 1, 1);
                odds("b10 3 1;", x, 2, square[x][0], square[x][1]);
                odds("b10 3 1;", x, 4, 0, 1);
                odds("b0 3 1;", x, 0, 0, 1);
                odds("b0 3 1;", x, 8, 0, 1);
                odds("b99 1 1;", x, 8, 1, 1);
            }
            int[][] eighth = {{1, 1}, {43046721, 100000000}, {65536, 390625}, {5764801, 100000000},
                {6561, 390625}, {1, 256}, {256, 390625}, {6561, 100000000}, {1, 390625}, {1, 100000000}, {0, 1}};
            for (int x = 0; x <= 10; x++) {
                odds("b9 1 1;", x, 8, eighth[x][0], eighth[x][1]);
            }
            for (int n = 1; n <= 8; n++) {
                odds("b9 1 1;", 5, n, n < 4 ? new int[] {0, 1, 3, 1}[n] : 1, n < 4 ? new int[] {0, 1, 4, 2}[n] : 1 << n);
            }
        });
        Sentence.holds(17, "ODDS: upper (what = 0), lower number (1), in least terms. BAD.", () -> {
            for (int number : new int[] {-1, Wards.FAR, Wards.FAR_BELOW}) {
                refused("odds(" + number + ", 1, 1, 0)", Wards::busy, x -> x.odds(number, 1, 1, 0), BAD);
                refused("odds(0, " + number + ", 1, 0)", Wards::busy, x -> x.odds(0, number, 1, 0), BAD);
                refused("odds(0, 1, " + number + ", 0)", Wards::busy, x -> x.odds(0, 1, number, 0), BAD);
                refused("odds(0, 1, 1, " + number + ")", Wards::busy, x -> x.odds(0, 1, 1, number), BAD);
            }
            refused("odds(4, 1, 1, 0)", Wards::busy, x -> x.odds(4, 1, 1, 0), BAD);
            refused("odds(0, 11, 1, 0)", Wards::busy, x -> x.odds(0, 11, 1, 0), BAD);
            refused("odds(0, 1, 9, 0)", Wards::busy, x -> x.odds(0, 1, 9, 0), BAD);
            refused("odds(0, 1, 1, 2)", Wards::busy, x -> x.odds(0, 1, 1, 2), BAD);
            refused("odds(0, 0, 0, 0) of none", WarmBottles::new, x -> x.odds(0, 0, 0, 0), BAD);
            due("odds(6, 0, 0, 0) of six", Wards.told(Wards.SIX).odds(6, 0, 0, 0), BAD);
            due("odds(5, 0, 0, 0) of six", Wards.told(Wards.SIX).odds(5, 0, 0, 0), 1);
            due("odds(0, 10, 8, 1)", Wards.busy().odds(0, 10, 8, 1), 1);
        });
    }

    private static void oddsOfFrost() {
        Sentence.holds(17, "in each of n HOURS from now on FROST is, by x of 10, five more than NOW", () -> {
            odds("b6 1 1;", 3, 1, 7, 10);
            odds("b7 1 1;", 3, 1, 1, 1);
            odds("b1 1 1;", 3, 1, 0, 1);
            odds("b2 1 1;", 3, 1, 7, 10);
            WarmBottles x = Wards.told("b9 1 1;b10 1 1;");
            x.frosts(3);
            due("9 less 9", x.odds(0, 4, 1, 0), 3);
            due("of", x.odds(0, 4, 1, 1), 5);
            due("10 less 9", x.odds(1, 4, 1, 0), 1);
            // Beyond 9, too: 9 and 5 are 14, and 1.
            x = Wards.told("b15 1 1;b16 1 1;b11 1 1;b10 1 1;");
            x.frosts(9);
            due("15 less 15", x.odds(0, 1, 1, 0), 9);
            due("of", x.odds(0, 1, 1, 1), 10);
            due("16 less 15", x.odds(1, 1, 1, 0), 1);
            due("of", x.odds(1, 1, 1, 1), 1);
            due("11 less 10", x.odds(2, 1, 1, 0), 9);
            due("10 less 10", x.odds(3, 1, 1, 0), 0);
            x.lays(1, 0);
            due("15 less 13 beside one", x.odds(0, 1, 1, 0), 1);
            x = Wards.told("b3 1 1;b9 1 1;b9 1 1;b9 1 1;");
            x.lays(1, 0);
            x.lays(2, 0);
            due("6 less 4 beside two", x.odds(0, 10, 1, 0), 1);
            due("twice", x.odds(0, 10, 2, 0), 0);
            x.lays(3, 0);
            due("6 less 6 beside three: 1 at least", x.odds(0, 10, 2, 0), 1);
            due("three times", x.odds(0, 10, 3, 0), 0);
        });
        Sentence.holds(17, ", for itself: that it is above 0 WARM behind them: a fraction.", () -> {
            // 3 or 8 an hour: two of 8 are too much, one and one aren't.
            odds("b12 3 1;", 5, 2, 3, 4);
            odds("b12 3 1;", 3, 2, 91, 100);
            odds("b12 3 1;", 10, 2, 0, 1);
            odds("b12 3 1;", 9, 2, 19, 100);
            odds("b15 3 1;", 5, 3, 1, 2);
            odds("b15 3 1;", 1, 3, 243, 250);
            odds("b15 3 1;", 2, 3, 112, 125);
            odds("b14 3 1;", 1, 3, 729, 1000);
            odds("b48 1 1;", 1, 8, 99999999, 100000000);
            odds("b49 1 1;", 1, 8, 1, 1);
            odds("b43 1 1;", 1, 8, 99999927, 100000000);
        });
    }
}

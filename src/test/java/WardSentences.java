import java.util.function.Consumer;
import java.util.function.Supplier;
import java.util.function.ToLongFunction;

/** The sentences of what is so and of what is done: promises 5 to 13. */
final class WardSentences {
    private static final int BAD = Wards.BAD, STATE = Wards.STATE, NONE = Wards.NONE;

    private WardSentences() {
    }

    static void all() {
        bottle();
        sound();
        lasts();
        now();
        hour();
        cooling();
        fills();
        lays();
        spills();
        frosts();
        boils();
        undo();
        undoTen();
    }

    private static void due(String call, long got, long want) {
        Sentence.due(call, got, want);
    }

    private static void refused(String call, Supplier<WarmBottles> made,
            ToLongFunction<WarmBottles> ask, long want) {
        Sentence.changesNothing(call, made, ask, want);
    }

    private static void bottle() {
        Sentence.holds(5, "Of a BOTTLE: 0 how WARM, 1 COOLS, 2 SPEAKS, 3 its BED, 4 SOUND, 5 LASTS. BAD.", () -> {
            int[][] dues = {{49, 5, 20, 0, 2, 7}, {29, 4, 50, 2, 1, 8}, {18, 3, 21, 2, 1, 6}, {0, 9, 1, 3, 0, 0}};
            for (int b = 0; b < 4; b++) {
                for (int what = 0; what <= 5; what++) {
                    int each = b;
                    int asked = what;
                    Sentence.changesNothing("bottle(" + b + ", " + what + ")", Wards::busy,
                            x -> x.bottle(each, asked), dues[b][what]);
                }
                for (int what : new int[] {-1, 6, Wards.FAR, Wards.FAR_BELOW}) {
                    int each = b;
                    refused("bottle(" + b + ", " + what + ")", Wards::busy, x -> x.bottle(each, what), BAD);
                }
            }
            for (int b : new int[] {-1, 4, 5, 6, Wards.FAR, Wards.FAR_BELOW}) {
                refused("bottle(" + b + ", 0)", Wards::busy, x -> x.bottle(b, 0), BAD);
                refused("bottle(" + b + ", 6)", Wards::busy, x -> x.bottle(b, 6), BAD);
            }
            for (int what = -1; what <= 6; what++) {
                due("of none: bottle(0, " + what + ")", new WarmBottles().bottle(0, what), BAD);
                due("of six: bottle(6, " + what + ")", Wards.told(Wards.SIX).bottle(6, what), BAD);
            }
            due("of six: bottle(5, 0)", Wards.told(Wards.SIX).bottle(5, 0), 40);
        });
    }

    private static void sound() {
        Sentence.holds(5, "SOUND of a BOTTLE: 0 none, if it is 0 WARM;", () -> {
            due("0 WARM, SPEAKS 0", Wards.told("b0 1 0;").bottle(0, 4), 0);
            due("0 WARM, SPEAKS 1", Wards.told("b0 1 1;").bottle(0, 4), 0);
            due("0 WARM, SPEAKS 99", Wards.told("b0 1 99;").bottle(0, 4), 0);
            due("1 WARM, SPEAKS 0", Wards.told("b1 1 0;").bottle(0, 4), 2);
            WarmBottles x = Wards.told("b30 1 0;");
            x.spills(0);
            due("SPILT", x.bottle(0, 4), 0);
        });
        Sentence.holds(5, "else 2 CLEAR (WARM by SPEAKS or more), or 1 LOW.", () -> {
            due("20 by 20", Wards.told("b20 1 20;").bottle(0, 4), 2);
            due("20 by 21", Wards.told("b20 1 21;").bottle(0, 4), 1);
            due("20 by 19", Wards.told("b20 1 19;").bottle(0, 4), 2);
            due("1 by 1", Wards.told("b1 1 1;").bottle(0, 4), 2);
            due("1 by 2", Wards.told("b1 1 2;").bottle(0, 4), 1);
            due("99 by 99", Wards.told("b99 1 99;").bottle(0, 4), 2);
            due("98 by 99", Wards.told("b98 1 99;").bottle(0, 4), 1);
        });
        Sentence.holds(5, "at that much or more)", () -> {
            WarmBottles x = Wards.told("b7 1 6;");
            due("one more", x.bottle(0, 4), 2);
            x.hour();
            due("at that much", x.bottle(0, 4), 2);
            x.hour();
            due("one less", x.bottle(0, 4), 1);
        });
    }

    private static void lasts() {
        Sentence.holds(5, "LASTS of a BOTTLE: behind how many HOURS (0 .. 99), if just these go by", () -> {
            int[][] dues = {{0, 1, 0}, {0, 9, 0}, {1, 1, 1}, {1, 9, 1}, {2, 1, 2}, {99, 1, 99}, {98, 1, 98},
                {99, 2, 50}, {98, 2, 49}, {97, 2, 49}, {9, 9, 1}, {10, 9, 2}, {18, 9, 2}, {19, 9, 3}, {99, 9, 11}};
            for (int[] each : dues) {
                String text = "b" + each[0] + " " + each[1] + " 1;";
                due(text, Wards.told(text).bottle(0, 5), each[2]);
                due("by HOURS: " + text, hoursTillCold(Wards.told(text)), each[2]);
            }
            WarmBottles x = Wards.told("b99 9 1;");
            x.frosts(9);
            due("99 by 18", x.bottle(0, 5), 6);
            x.frosts(2);
            due("99 by 11", x.bottle(0, 5), 9);
            x = Wards.told("b30 3 1;b99 1 1;");
            x.lays(1, 0);
            due("beside another", x.bottle(0, 5), 30);
            x.frosts(1);
            due("in frost, beside another", x.bottle(0, 5), 15);
        });
        Sentence.holds(5, "(past HOUR 999, too; so wherever HOURS from now on are asked), it is 0 WARM.", () -> {
            Supplier<WarmBottles> late = () -> {
                WarmBottles x = Wards.afterHours("b99 1 99;b99 2 50;k4;", 999);
                x.fills(0, 3);
                x.fills(1, 1);
                return x;
            };
            due("HOUR", late.get().now(0), 999);
            due("hour()", late.get().hour(), STATE);
            due("LASTS 0", late.get().bottle(0, 5), 30);
            due("LASTS 1", late.get().bottle(1, 5), 5);
            due("ALL", late.get().now(3), 5);
            due("morning(30, 0)", late.get().morning(30, 0), 1);
            due("morning(29, 0)", late.get().morning(29, 0), 0);
            due("kept(0)", late.get().kept(0), 4);
            due("beds(-1)", late.get().beds(-1), 10);
            due("odds(1, 5, 2, 0)", late.get().odds(1, 5, 2, 0), 3);
            due("odds(1, 5, 2, 1)", late.get().odds(1, 5, 2, 1), 4);
            due("listen()", late.get().listen(), 5);
            WarmBottles x = late.get();
            x.hears(5, 0);
            due("who()", x.who(), 2);
        });
    }

    private static int hoursTillCold(WarmBottles x) {
        int hours = 0;
        while (x.bottle(0, 0) > 0) {
            x.hour();
            hours++;
        }
        return hours;
    }

    private static void now() {
        Sentence.holds(6, "0 HOUR, 1 FROST, 2 what the KETTLE has, 3 ALL (NONE), 4 how many are above 0 WARM,"
                + " 5 how many may be UNDONE. BAD.", () -> {
            int[] dues = {1, 2, 7, 0, 3, 4};
            for (int what = 0; what <= 5; what++) {
                int asked = what;
                Sentence.changesNothing("now(" + what + ")", Wards::busy, x -> x.now(asked), dues[what]);
            }
            for (int what : new int[] {-1, 6, Wards.FAR, Wards.FAR_BELOW}) {
                refused("now(" + what + ")", Wards::busy, x -> x.now(what), BAD);
                refused("now(" + what + ") of none", WarmBottles::new, x -> x.now(what), BAD);
            }
            String text = "";
            for (int warm = 0; warm <= 6; warm++) {
                due("above 0 of " + text, Wards.told(text).now(4), warm);
                if (warm < 6) {
                    due("above 0 of " + text + "b0 1 1;", Wards.told(text + "b0 1 1;").now(4), warm);
                }
                text += "b1 1 1;";
            }
        });
        Sentence.holds(6, "ALL: the least of these (NONE: no BOTTLES).", () -> {
            due("no bottles", new WarmBottles().now(3), NONE);
            due("one cold bottle", Wards.told("b0 1 1;").now(3), 0);
            due("one at 99", Wards.told("b99 1 1;").now(3), 99);
            due("the first", Wards.told("b5 1 1;b9 1 1;b9 1 1;").now(3), 5);
            due("the second", Wards.told("b9 1 1;b5 1 1;b9 1 1;").now(3), 5);
            due("the third", Wards.told("b9 1 1;b9 1 1;b5 1 1;").now(3), 5);
            due("the sixth", Wards.told(Wards.SIX + "k1;").now(3), 5);
            due("not the least WARM", Wards.told("b90 9 1;b11 1 1;").now(3), 10);
        });
    }

    private static void hour() {
        Sentence.holds(7, "An HOUR: how many are above 0 WARM then. STATE: it is 999.", () -> {
            WarmBottles x = Wards.told("b3 1 1;b2 1 1;b1 1 1;b0 1 1;");
            due("first", x.hour(), 2);
            due("second", x.hour(), 1);
            due("third", x.hour(), 0);
            due("fourth", x.hour(), 0);
            due("HOUR", x.now(0), 4);
            due("without bottles", new WarmBottles().hour(), 0);
            due("six", Wards.told(Wards.SIX).hour(), 6);
        });
        Sentence.holds(7, "An HOUR goes by (999 at most)", () -> {
            WarmBottles x = Wards.afterHours("b50 1 1;k0;", 997);
            due("at 997", x.hour(), 0);
            due("HOUR", x.now(0), 998);
            due("at 998", x.hour(), 0);
            due("HOUR", x.now(0), 999);
            due("at 999", x.hour(), STATE);
            due("HOUR", x.now(0), 999);
            due("undo()", x.undo(), 9);
            due("HOUR", x.now(0), 998);
            due("at 998 again", x.hour(), 0);
            due("at 999 again", x.hour(), STATE);
            refused("hour()", () -> {
                WarmBottles late = Wards.afterHours("b50 1 1;k20;", 999);
                late.fills(0, 9);
                late.keep(0);
                late.hears(0, 2);
                return late;
            }, late -> late.hour(), STATE);
        });
    }

    private static void cooling() {
        Sentence.holds(7, ": each BOTTLE is as much less WARM (0 at least) as COOLS and FROST", () -> {
            for (int warm : new int[] {0, 1, 6, 7, 8, 99}) {
                WarmBottles x = Wards.told("b" + warm + " 3 1;b50 1 1;");
                x.frosts(4);
                due(warm + " less 7: above 0", x.hour(), warm > 7 ? 2 : 1);
                due(warm + " less 7", x.bottle(0, 0), Math.max(0, warm - 7));
                due("50 less 5", x.bottle(1, 0), 45);
            }
            for (int cools = 1; cools <= 9; cools++) {
                for (int frost = 0; frost <= 9; frost++) {
                    due("COOLS " + cools + ", FROST " + frost, hourBeside(cools, frost, 0), 99 - cools - frost);
                }
            }
        });
        Sentence.holds(7, ", less 2 for each other one in the same BED, but 1 at least.", () -> {
            due("3 less 2", hourBeside(3, 0, 1), 98);
            due("2 less 2: 1", hourBeside(2, 0, 1), 98);
            due("1 less 2: 1", hourBeside(1, 0, 1), 98);
            due("4 less 2", hourBeside(4, 0, 1), 97);
            due("9 and 9 less 10", hourBeside(9, 9, 5), 91);
            due("9 and 2 less 10: 1", hourBeside(9, 2, 5), 98);
            due("9 and 1 less 10: 1", hourBeside(9, 1, 5), 98);
            due("9 and 3 less 10", hourBeside(9, 3, 5), 97);
            for (int cools = 1; cools <= 9; cools++) {
                for (int frost = 0; frost <= 9; frost++) {
                    for (int others = 0; others <= 5; others++) {
                        due("COOLS " + cools + ", FROST " + frost + ", others " + others,
                                hourBeside(cools, frost, others), 99 - Math.max(1, cools + frost - 2 * others));
                    }
                }
            }
        });
        Sentence.holds(7, "each other one in the same BED", () -> {
            WarmBottles x = Wards.told("b50 6 1;b50 7 1;b0 9 1;b50 8 1;b50 9 1;");
            x.lays(0, 4);
            x.lays(2, 4);
            due("hour()", x.hour(), 4);
            due("two others, one of them cold", x.bottle(0, 0), 48);
            due("the one that lay there", x.bottle(4, 0), 45);
            due("a cold one stays so", x.bottle(2, 0), 0);
            due("by itself", x.bottle(1, 0), 43);
            due("by itself, too", x.bottle(3, 0), 42);
            x.lays(4, 0);
            x.hour();
            due("one other is left", x.bottle(0, 0), 44);
            due("it left", x.bottle(4, 0), 36);
        });
    }

    /** How warm bottle 0 of 99 is behind an hour beside so many others. */
    private static int hourBeside(int cools, int frost, int others) {
        WarmBottles x = Wards.told("b99 " + cools + " 1;b9 1 1;b9 1 1;b9 1 1;b9 1 1;b9 1 1;");
        if (frost > 0) {
            x.frosts(frost);
        }
        for (int b = 1; b <= others; b++) {
            x.lays(b, 0);
        }
        x.hour();
        return x.bottle(0, 0);
    }

    private static void fills() {
        Sentence.holds(8, "FILLED: how WARM it is then.", () -> {
            WarmBottles x = Wards.told("b5 1 1;b6 1 1;p4;");
            due("fills(0, 1)", x.fills(0, 1), 9);
            due("bottle 0", x.bottle(0, 0), 9);
            due("not the other one", x.bottle(1, 0), 6);
            due("fills(1, 3)", x.fills(1, 3), 18);
            due("bottle 1", x.bottle(1, 0), 18);
            due("HOUR", x.now(0), 0);
        });
        Sentence.holds(8, "FILLED: a BOTTLE is n (1 .. 9) times PINT WARMER (99 at most)", () -> {
            for (int n = 1; n <= 9; n++) {
                due("n " + n, Wards.told("b7 1 1;k9;p10;").fills(0, n), 7 + 10 * n);
                due("n " + n + ", PINT 30", Wards.told("b7 1 1;k9;p30;").fills(0, n), Math.min(99, 7 + 30 * n));
            }
            due("98 and 1", Wards.told("b98 1 1;p1;").fills(0, 1), 99);
            due("99 and 1", Wards.told("b99 1 1;p1;").fills(0, 1), 99);
            due("97 and 1", Wards.told("b97 1 1;p1;").fills(0, 1), 98);
            due("89 and 10", Wards.told("b89 1 1;").fills(0, 1), 99);
            due("90 and 10", Wards.told("b90 1 1;").fills(0, 1), 99);
            due("0 and 270", Wards.told("b0 1 1;p30;").fills(0, 9), 99);
            for (int n : new int[] {0, -1, 10, Wards.FAR, Wards.FAR_BELOW}) {
                refused("fills(0, " + n + ")", Wards::busy, x -> x.fills(0, n), BAD);
                refused("fills(0, " + n + ") by 60", Wards.of("k60;b1 1 1;"), x -> x.fills(0, n), BAD);
            }
            for (int b : new int[] {-1, 4, 6, Wards.FAR, Wards.FAR_BELOW}) {
                refused("fills(" + b + ", 1)", Wards::busy, x -> x.fills(b, 1), BAD);
            }
            refused("fills(0, 1) of none", WarmBottles::new, x -> x.fills(0, 1), BAD);
            refused("fills(6, 1) of six", Wards.of(Wards.SIX), x -> x.fills(6, 1), BAD);
            due("fills(5, 1) of six", Wards.told(Wards.SIX).fills(5, 1), 50);
        });
        Sentence.holds(8, ", for n pints of the KETTLE.", () -> {
            for (int n = 1; n <= 9; n++) {
                WarmBottles x = Wards.told("b7 1 1;k9;p1;");
                x.fills(0, n);
                due("of 9 by " + n, x.now(2), 9 - n);
            }
            WarmBottles x = Wards.told("b99 1 1;k9;p1;");
            x.fills(0, 5);
            due("where it makes no warmer, too", x.now(2), 4);
            due("KETTLE as told stays", x.count(1), 9);
        });
        Sentence.holds(8, "BAD; STATE: the KETTLE has too little.", () -> {
            for (int n = 1; n <= 9; n++) {
                int each = n;
                due("as much as it has", Wards.told("b7 1 1;p1;k" + n + ";").fills(0, n), 7 + n);
                refused("one more than it has: fills(0, " + n + ")", Wards.of("b7 1 1;p1;k" + (n - 1) + ";"),
                        x -> x.fills(0, each), STATE);
            }
            refused("fills(0, 8)", Wards::busy, x -> x.fills(0, 8), STATE);
            due("fills(0, 7)", Wards.busy().fills(0, 7), 98);
            refused("BAD is first: n 10", Wards.of("b7 1 1;k0;"), x -> x.fills(0, 10), BAD);
            refused("BAD is first: n 0", Wards.of("b7 1 1;k0;"), x -> x.fills(0, 0), BAD);
            refused("BAD is first: no bottle", Wards.of("b7 1 1;k0;"), x -> x.fills(1, 1), BAD);
            refused("STATE at 99, too", Wards.of("b99 1 1;k0;"), x -> x.fills(0, 1), STATE);
        });
    }

    private static void lays() {
        Sentence.holds(9, "LAID: the BED till then.", () -> {
            WarmBottles x = Wards.told(Wards.SIX);
            due("lays(5, 0)", x.lays(5, 0), 5);
            due("lays(5, 3)", x.lays(5, 3), 0);
            due("lays(5, 5)", x.lays(5, 5), 3);
            due("lays(0, 5)", x.lays(0, 5), 0);
            due("lays(0, 1)", x.lays(0, 1), 5);
        });
        Sentence.holds(9, "LAID: a BOTTLE into the BED of a number.", () -> {
            WarmBottles x = Wards.told(Wards.SIX);
            x.lays(2, 4);
            x.lays(4, 0);
            int[] dues = {0, 1, 4, 3, 0, 5};
            for (int b = 0; b < 6; b++) {
                due("BED of " + b, x.bottle(b, 3), dues[b]);
            }
            due("the BED, not the one it is of", x.lays(0, 4), 0);
            due("beside 2 only", x.bottle(2, 5), 24);
        });
        Sentence.holds(9, "BAD (a BED of no BOTTLE, too); STATE: it is there.", () -> {
            for (int number : new int[] {-1, 4, 5, 6, Wards.FAR, Wards.FAR_BELOW}) {
                refused("lays(0, " + number + ")", Wards::busy, x -> x.lays(0, number), BAD);
                refused("lays(" + number + ", 0)", Wards::busy, x -> x.lays(number, 0), BAD);
                refused("lays(" + number + ", " + number + ")", Wards::busy, x -> x.lays(number, number), BAD);
            }
            due("lays(0, 3) of four", Wards.busy().lays(0, 3), 0);
            due("lays(3, 0) of four", Wards.busy().lays(3, 0), 3);
            due("lays(0, 5) of six", Wards.told(Wards.SIX).lays(0, 5), 0);
            refused("lays(0, 6) of six", Wards.of(Wards.SIX), x -> x.lays(0, 6), BAD);
            refused("lays(0, 0) of none", WarmBottles::new, x -> x.lays(0, 0), BAD);
            refused("lays(0, 1) of one", Wards.of("b7 1 1;"), x -> x.lays(0, 1), BAD);
            refused("lays(0, 0) of one", Wards.of("b7 1 1;"), x -> x.lays(0, 0), STATE);
            refused("lays(0, 0)", Wards::busy, x -> x.lays(0, 0), STATE);
            refused("lays(1, 2)", Wards::busy, x -> x.lays(1, 2), STATE);
            refused("lays(2, 2)", Wards::busy, x -> x.lays(2, 2), STATE);
            due("lays(1, 1)", Wards.busy().lays(1, 1), 2);
        });
    }

    private static void spills() {
        Sentence.holds(10, "SPILT: how WARM it was.", () -> {
            due("99", Wards.told("b99 1 1;").spills(0), 99);
            due("1", Wards.told("b1 1 1;").spills(0), 1);
            due("49", Wards.busy().spills(0), 49);
            due("the last of six", Wards.told(Wards.SIX).spills(5), 40);
        });
        Sentence.holds(10, "SPILT: it is 0 WARM.", () -> {
            WarmBottles x = Wards.told("b20 3 5;b30 4 6;");
            x.spills(0);
            due("0", x.bottle(0, 0), 0);
            due("the other one stays", x.bottle(1, 0), 30);
            due("COOLS stays", x.bottle(0, 1), 3);
            due("SPEAKS stays", x.bottle(0, 2), 5);
            due("the KETTLE has no more", x.now(2), 10);
            due("it can be filled", x.fills(0, 1), 10);
            due("and spilt again", x.spills(0), 10);
        });
        Sentence.holds(10, "BAD; STATE: 0.", () -> {
            refused("spills(3)", Wards::busy, x -> x.spills(3), STATE);
            refused("told 0", Wards.of("b0 1 1;b1 1 1;"), x -> x.spills(0), STATE);
            refused("spilt", () -> {
                WarmBottles x = Wards.busy();
                x.spills(1);
                return x;
            }, x -> x.spills(1), STATE);
            for (int b : new int[] {-1, 4, 6, Wards.FAR, Wards.FAR_BELOW}) {
                refused("spills(" + b + ")", Wards::busy, x -> x.spills(b), BAD);
            }
            refused("spills(0) of none", WarmBottles::new, x -> x.spills(0), BAD);
            refused("spills(6) of six", Wards.of(Wards.SIX), x -> x.spills(6), BAD);
        });
    }

    private static void frosts() {
        Sentence.holds(11, "FROST till then.", () -> {
            WarmBottles x = Wards.told("b20 3 5;");
            due("frosts(9)", x.frosts(9), 0);
            due("frosts(1)", x.frosts(1), 9);
            due("frosts(0)", x.frosts(0), 1);
            due("without bottles", new WarmBottles().frosts(5), 0);
        });
        Sentence.holds(11, "FROST is n (0 .. 9).", () -> {
            for (int n = 0; n <= 9; n++) {
                WarmBottles x = Wards.told("b99 1 1;");
                x.frosts(n == 4 ? 5 : 4);
                due("frosts(" + n + ")", x.frosts(n), n == 4 ? 5 : 4);
                due("FROST", x.now(1), n);
                x.hour();
                due("an HOUR", x.bottle(0, 0), 98 - n);
                due("it stays", x.now(1), n);
            }
            for (int n : new int[] {-1, 10, Wards.FAR, Wards.FAR_BELOW}) {
                refused("frosts(" + n + ")", Wards::busy, x -> x.frosts(n), BAD);
            }
        });
        Sentence.holds(11, "BAD; STATE: it is so.", () -> {
            refused("frosts(2)", Wards::busy, x -> x.frosts(2), STATE);
            refused("frosts(0)", WarmBottles::new, x -> x.frosts(0), STATE);
            for (int n = 0; n <= 9; n++) {
                int each = n;
                refused("frosts(" + n + ") twice", () -> {
                    WarmBottles x = Wards.told("b99 1 1;");
                    x.frosts(each);
                    return x;
                }, x -> x.frosts(each), STATE);
            }
        });
    }

    private static void boils() {
        Sentence.holds(12, "BOILED: what the KETTLE had.", () -> {
            due("7", Wards.busy().boils(), 7);
            WarmBottles x = Wards.told("k9;b1 1 1;");
            x.fills(0, 9);
            due("0", x.boils(), 0);
        });
        Sentence.holds(12, "BOILED: the KETTLE is as told again.", () -> {
            WarmBottles x = Wards.told("k60;b1 1 1;");
            x.fills(0, 9);
            x.fills(0, 9);
            x.boils();
            due("60", x.now(2), 60);
            due("as told", x.count(1), 60);
            x = Wards.told("b1 1 1;");
            x.fills(0, 1);
            x.boils();
            due("10 at first", x.now(2), 10);
            due("the bottle stays", x.bottle(0, 0), 11);
        });
        Sentence.holds(12, "STATE: as much as was told.", () -> {
            refused("told nothing", WarmBottles::new, x -> x.boils(), STATE);
            refused("told 0", Wards.of("k0;"), x -> x.boils(), STATE);
            refused("told 60", Wards.of("k60;b7 1 1;"), x -> x.boils(), STATE);
            refused("boiled", () -> {
                WarmBottles x = Wards.busy();
                x.boils();
                return x;
            }, x -> x.boils(), STATE);
            WarmBottles x = Wards.told("k60;b7 1 1;");
            x.fills(0, 1);
            due("one less", x.boils(), 59);
            x.fills(0, 1);
            x.undo();
            due("undone", x.boils(), STATE);
        });
    }

    private static void undo() {
        Sentence.holds(13, "UNDONE: the latest hour(), fills(), lays(), spills(), frosts(), boils()", () -> {
            undone("hour()", x -> x.hour());
            undone("fills()", x -> x.fills(0, 2));
            undone("lays()", x -> x.lays(0, 3));
            undone("spills()", x -> x.spills(2));
            undone("frosts()", x -> x.frosts(9));
            undone("boils()", x -> x.boils());
            WarmBottles x = Wards.busy();
            x.boils();
            x.spills(0);
            x.undo();
            due("the latest: warm", x.bottle(0, 0), 49);
            due("not the one before", x.now(2), 9);
            x.undo();
            due("then that", x.now(2), 7);
        });
        Sentence.holds(13, "that was not refused", () -> {
            WarmBottles x = Wards.told("b9 1 1;b0 1 1;k3;");
            x.frosts(3);
            x.fills(0, 4);
            x.fills(0, 0);
            x.lays(0, 0);
            x.lays(0, 2);
            x.spills(1);
            x.spills(2);
            x.frosts(3);
            x.frosts(10);
            x.boils();
            x.undo();
            due("FROST", x.now(1), 0);
            due("nothing more", x.undo(), STATE);
        });
        Sentence.holds(13, "UNDONE: how many more may be. STATE: none.", () -> {
            WarmBottles x = Wards.busy();
            for (int more = 3; more >= 0; more--) {
                due("undo()", x.undo(), more);
                due("now(5)", x.now(5), more);
            }
            due("undo()", x.undo(), STATE);
            due("now(5)", x.now(5), 0);
            refused("undo() at none", () -> {
                WarmBottles all = Wards.busy();
                for (int i = 0; i < 4; i++) {
                    all.undo();
                }
                return all;
            }, all -> all.undo(), STATE);
            refused("undo() of a new one", WarmBottles::new, made -> made.undo(), STATE);
            refused("undo() of one just told", Wards.of(Wards.SIX), made -> made.undo(), STATE);
        });
        Sentence.holds(13, "as behind undo(), back()", () -> {
            WarmBottles x = Wards.busy();
            x.rate(5, 0);
            x.undo();
            due("trace()", x.trace(), 110102);
            x.hears(1, 1);
            x.keep(0);
            x.hour();
            x.undo();
            due("HEARD", x.count(3), 2);
            due("THE TEXT", x.count(4), 8);
            due("an image", x.back(0), 1);
        });
    }

    private static void undone(String call, Consumer<WarmBottles> act) {
        WarmBottles x = Wards.busy();
        act.accept(x);
        due(call + " may be undone", x.now(5), 5);
        Sentence.same("behind undo() it is as before " + call, Wards.everything(() -> {
            WarmBottles again = Wards.busy();
            act.accept(again);
            due("undo() of " + call, again.undo(), 4);
            return again;
        }), Wards.everything(Wards::busy));
    }

    private static void undoTen() {
        Sentence.holds(13, "(10 are known, older ones are lost)", () -> {
            for (int done = 0; done <= 35; done++) {
                int known = Math.min(10, done);
                WarmBottles x = Wards.afterHours("b99 1 1;", done);
                due("known behind " + done, x.now(5), known);
                for (int left = known - 1; left >= 0; left--) {
                    due("undo() of " + done, x.undo(), left);
                    due("HOUR", x.now(0), done - known + left);
                    due("WARM", x.bottle(0, 0), 99 - done + known - left);
                }
                due("undo() of " + done + " once more", x.undo(), STATE);
                due("HOUR", x.now(0), done - known);
            }
            for (int done : new int[] {9, 10, 11}) {
                // Some are undone, others done: they come behind what is left.
                WarmBottles x = Wards.afterHours("b99 1 1;", done);
                for (int i = 0; i < 4; i++) {
                    x.undo();
                }
                x.frosts(1);
                x.frosts(2);
                due("known", x.now(5), Math.min(10, done) - 2);
                x.undo();
                due("FROST", x.now(1), 1);
                x.undo();
                due("FROST", x.now(1), 0);
                x.undo();
                due("HOUR", x.now(0), done - 5);
            }
            refused("undo() behind ten of eleven", () -> {
                WarmBottles x = Wards.afterHours("b99 1 1;", 11);
                for (int i = 0; i < 10; i++) {
                    x.undo();
                }
                return x;
            }, x -> x.undo(), STATE);
        });
        Sentence.holds(13, "(10 are known", () -> {
            for (int kind = 0; kind < 6; kind++) {
                WarmBottles x = Wards.told("b50 3 1;b40 2 1;k40;");
                x.fills(0, 1);
                oneOfEach(x, kind);
                for (int hour = 0; hour < 9; hour++) {
                    x.hour();
                }
                for (int i = 0; i < 9; i++) {
                    x.undo();
                }
                due("the tenth is known", x.undo(), 0);
                due("it is undone", x.bottle(0, 0) * 10000 + x.bottle(0, 3) * 1000 + x.now(1) * 100 + x.now(2), 600039);
                due("HOUR", x.now(0), 0);
                due("the eleventh isn't", x.undo(), STATE);
            }
        });
    }

    private static void oneOfEach(WarmBottles x, int kind) {
        switch (kind) {
            case 0 -> x.hour();
            case 1 -> x.fills(0, 2);
            case 2 -> x.lays(0, 1);
            case 3 -> x.spills(0);
            case 4 -> x.frosts(7);
            default -> x.boils();
        }
    }
}

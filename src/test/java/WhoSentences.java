import java.util.function.Supplier;
import java.util.function.ToLongFunction;

/** The sentences of who it is: promises 18 to 21. */
final class WhoSentences {
    private static final int BAD = Wards.BAD, FULL = Wards.FULL, NONE = Wards.NONE;
    // Behind 0, 1, 2, 3 HOURS: 10 7 4 1; 10 8 6 4; 3 2 1 0. The SOUNDS: 2 2 1 1; 2 2 2 1; 1 1 1 0.
    private static final String THREE = "b10 3 5;b10 2 5;b3 1 9;";

    private WhoSentences() {
    }

    static void all() {
        hears();
        forget();
        who();
        whoFromNow();
        listen();
        listenNone();
    }

    private static void due(String call, long got, long want) {
        Sentence.due(call, got, want);
    }

    private static void refused(String call, Supplier<WarmBottles> made,
            ToLongFunction<WarmBottles> ask, long want) {
        Sentence.changesNothing(call, made, ask, want);
    }

    private static int whoOf(String text, int... heard) {
        WarmBottles x = Wards.told(text);
        for (int i = 0; i + 1 < heard.length; i += 2) {
            x.hears(heard[i], heard[i + 1]);
        }
        return x.who();
    }

    private static int listenOf(String text, int... heard) {
        WarmBottles x = Wards.told(text);
        for (int i = 0; i + 1 < heard.length; i += 2) {
            x.hears(heard[i], heard[i + 1]);
        }
        return x.listen();
    }

    private static WarmBottles sixHeard() {
        WarmBottles x = Wards.busy();
        for (int heard = 1; heard < 6; heard++) {
            x.hears(2, 1);
        }
        return x;
    }

    private static void hears() {
        Sentence.holds(18, "HEARD: how much there is. BAD; FULL.", () -> {
            WarmBottles x = Wards.told(THREE);
            for (int heard = 1; heard <= 6; heard++) {
                due("hears(0, 2)", x.hears(0, 2), heard);
                due("HEARD", x.count(3), heard);
            }
            due("the seventh", x.hears(0, 2), FULL);
            due("HEARD", x.count(3), 6);
            due("without bottles", new WarmBottles().hears(0, 0), 1);
            refused("BAD is first: h 10", WhoSentences::sixHeard, six -> six.hears(10, 1), BAD);
            refused("BAD is first: h -1", WhoSentences::sixHeard, six -> six.hears(-1, 1), BAD);
            refused("BAD is first: SOUND 3", WhoSentences::sixHeard, six -> six.hears(0, 3), BAD);
            refused("BAD is first: SOUND -1", WhoSentences::sixHeard, six -> six.hears(0, -1), BAD);
        });
        Sentence.holds(18, "HEARD (6 at most)", () -> {
            due("six", sixHeard().count(3), 6);
            due("who()", sixHeard().who(), 6);
            refused("the seventh, that is so, too", WhoSentences::sixHeard, x -> x.hears(2, 1), FULL);
            refused("the seventh, of another SOUND", WhoSentences::sixHeard, x -> x.hears(2, 0), FULL);
            refused("the seventh, at another h", WhoSentences::sixHeard, x -> x.hears(0, 2), FULL);
            for (int last = 0; last < 6; last++) {
                // Each of the six counts: one of them is by nobody.
                WarmBottles x = Wards.told(THREE);
                for (int i = 0; i < 6; i++) {
                    x.hears(0, i == last ? 0 : 2);
                }
                due("number " + last + " is by nobody", x.who(), 0);
            }
            WarmBottles x = sixHeard();
            x.forget();
            due("room again", x.hears(0, 2), 1);
            due("who()", x.who(), 1);
        });
        Sentence.holds(18, ": an unknown BOTTLE will be of a SOUND in h (0 .. 9) HOURS from NOW", () -> {
            for (int h = 0; h <= 9; h++) {
                for (int sound = 0; sound <= 2; sound++) {
                    WarmBottles x = Wards.told("b9 1 5;b5 1 9;b99 1 1;");
                    due("hears(" + h + ", " + sound + ")", x.hears(h, sound), 1);
                    int first = 9 - h <= 0 ? 0 : 9 - h >= 5 ? 2 : 1;
                    int second = 5 - h <= 0 ? 0 : 1;
                    due("who()", x.who(), (first == sound ? 1 : 0) + (second == sound ? 2 : 0) + (sound == 2 ? 4 : 0));
                }
            }
            for (int number : new int[] {-1, Wards.FAR, Wards.FAR_BELOW}) {
                refused("hears(" + number + ", 1)", Wards::busy, x -> x.hears(number, 1), BAD);
                refused("hears(1, " + number + ")", Wards::busy, x -> x.hears(1, number), BAD);
            }
            refused("hears(10, 1)", Wards::busy, x -> x.hears(10, 1), BAD);
            refused("hears(1, 3)", Wards::busy, x -> x.hears(1, 3), BAD);
        });
    }

    private static void forget() {
        Sentence.holds(19, "Nothing is HEARD: how much was.", () -> {
            for (int heard = 0; heard <= 6; heard++) {
                WarmBottles x = Wards.told(THREE);
                for (int i = 0; i < heard; i++) {
                    x.hears(0, 0);
                }
                due("who()", x.who(), heard == 0 ? 7 : 0);
                due("forget() of " + heard, x.forget(), heard);
                due("HEARD", x.count(3), 0);
                due("who()", x.who(), 7);
                due("forget() again", x.forget(), 0);
                due("hears(0, 1)", x.hears(0, 1), 1);
                due("who()", x.who(), 4);
            }
            Sentence.changesNothing("forget() of nothing", () -> {
                WarmBottles x = Wards.busy();
                x.forget();
                return x;
            }, x -> x.forget(), 0);
        });
    }

    private static void who() {
        Sentence.holds(20, "WHO: BOTTLES (bits) by whom all that was HEARD is so.", () -> {
            due("nothing heard", whoOf(THREE), 7);
            due("clear now", whoOf(THREE, 0, 2), 3);
            due("low now", whoOf(THREE, 0, 1), 4);
            due("none now", whoOf(THREE, 0, 0), 0);
            due("low in two", whoOf(THREE, 2, 1), 5);
            due("clear now, low in two", whoOf(THREE, 0, 2, 2, 1), 1);
            due("low in two, clear now", whoOf(THREE, 2, 1, 0, 2), 1);
            due("clear in two", whoOf(THREE, 2, 2), 2);
            due("low in three", whoOf(THREE, 3, 1), 3);
            due("none in three", whoOf(THREE, 3, 0), 4);
            due("none in nine", whoOf(THREE, 9, 0), 7);
            due("nobody", whoOf(THREE, 0, 2, 3, 0), 0);
            due("two of one h", whoOf(THREE, 0, 2, 0, 1), 0);
            due("0 WARM by SPEAKS 0", whoOf("b2 1 0;", 2, 0), 1);
            due("1 WARM by SPEAKS 0", whoOf("b2 1 0;", 1, 2), 1);
        });
        Sentence.holds(20, "WHO, as bits.", () -> {
            due("no bottles", new WarmBottles().who(), 0);
            WarmBottles none = new WarmBottles();
            none.hears(0, 0);
            due("no bottles, and heard", none.who(), 0);
            String text = "";
            for (int bottles = 0; bottles <= 6; bottles++) {
                due("of " + bottles, whoOf(text), (1 << bottles) - 1);
                text += "b9 1 1;";
            }
            for (int b = 0; b < 6; b++) {
                WarmBottles x = Wards.told(text.substring(0, 42));
                x.spills(b);
                x.hears(0, 0);
                due("the cold one: " + b, x.who(), 1 << b);
            }
        });
    }

    private static void whoFromNow() {
        Sentence.holds(20, "(from that at which WHO, LISTEN are asked), if just these go by.", () -> {
            WarmBottles x = Wards.told(THREE);
            x.hears(1, 2);
            due("in one", x.who(), 3);
            x.hour();
            due("in one from then", x.who(), 2);
            x.hour();
            due("in one from then again", x.who(), 0);
            x.undo();
            x.undo();
            due("undone", x.who(), 3);
            x.frosts(4);
            due("in frost", x.who(), 0);
            x.frosts(0);
            x.fills(2, 1);
            due("filled", x.who(), 7);
            x.spills(0);
            due("spilt", x.who(), 6);
            x = Wards.told("b10 3 5;b10 4 5;");
            x.hears(3, 1);
            due("10 less 9", x.who(), 1);
            x.lays(1, 0);
            due("together: 7, and 4", x.who(), 2);
            x = Wards.told("b10 1 1;b20 1 1;");
            due("told apart in ten: not yet", x.listen(), 0);
            x.hour();
            due("in nine from then", x.listen(), 9);
            x.hour();
            due("in eight from then", x.listen(), 8);
        });
    }

    private static void listen() {
        Sentence.holds(21, "LISTEN: the h (0 .. 9) by which the greatest number of these of one SOUND is least,"
                + " of several the lowest;", () -> {
            for (int warm = 0; warm <= 12; warm++) {
                due("b99 and b" + warm, listenOf("b99 1 1;b" + warm + " 1 1;"), warm <= 9 ? warm : 0);
            }
            due("never told apart: the lowest", listenOf("b10 1 99;b10 1 99;"), 0);
            due("told apart at once and later", listenOf("b10 1 5;b4 1 5;"), 0);
            due("2 2 1, then 2 2 1, 2 1 1: the lowest", listenOf(THREE), 0);
            due("3 of one, then 2, then 3", listenOf("b9 1 9;b9 1 8;b1 1 5;b9 1 7;"), 1);
            due("six, by 5 of one", listenOf("b9 1 0;b9 1 0;b9 1 0;b9 1 0;b9 1 0;b2 1 0;"), 2);
            due("six, 2 of each SOUND", listenOf("b9 1 0;b9 1 0;b9 1 9;b9 1 9;b1 1 0;b1 1 0;"), 1);
            due("LOW is a SOUND of its own", listenOf("b9 1 0;b9 1 8;b9 1 7;"), 2);
            due("1 of each of three SOUNDS", listenOf("b9 1 0;b9 1 9;b3 1 0;"), 3);
        });
        Sentence.holds(21, "greatest number of these", () -> {
            // By all of them 0 would be as good; the third is not one of these.
            due("two are left", listenOf(THREE, 0, 2), 2);
            due("two are left, by what is later", listenOf(THREE, 2, 1), 0);
            due("and these", listenOf(THREE, 3, 1), 2);
        });
        Sentence.holds(21, "LISTEN; NONE.", () -> {
            due("two that are the same", listenOf("b5 1 1;b5 1 1;"), 0);
            due("one", listenOf("b5 1 1;"), NONE);
        });
    }

    private static void listenNone() {
        Sentence.holds(21, "NONE (one can be at most).", () -> {
            due("no bottles", new WarmBottles().listen(), NONE);
            due("one of one", listenOf("b5 1 1;"), NONE);
            due("none of one", listenOf("b5 1 1;", 0, 0), NONE);
            due("two of two", listenOf("b5 1 1;b5 1 1;"), 0);
            due("one of two", listenOf("b5 1 1;b4 1 1;", 4, 2), NONE);
            due("none of two", listenOf("b5 1 1;b4 1 1;", 4, 1), NONE);
            due("one of three", listenOf(THREE, 0, 1), NONE);
            due("two of three", listenOf(THREE, 0, 2), 2);
            due("three of three", listenOf(THREE, 9, 0), 0);
            due("none of three", listenOf(THREE, 0, 0), NONE);
            due("the last two of six", listenOf("b9 1 1;b9 1 1;b9 1 1;b9 1 1;b1 2 5;b2 2 5;", 0, 1), 0);
            due("the last of six", listenOf("b9 1 1;b9 1 1;b9 1 1;b9 1 1;b9 1 1;b2 2 5;", 0, 1), NONE);
        });
    }
}

import java.util.function.Consumer;
import java.util.function.Supplier;
import java.util.function.ToLongFunction;

/** The sentences of KINDS, IMAGES, what is counted, THE TRACE: promises 22 to 26. */
final class KindsSentences {
    private static final int BAD = Wards.BAD, STATE = Wards.STATE, FULL = Wards.FULL, NONE = Wards.NONE,
            NO = Wards.NO;
    // What one rate() of each kind adds to THE TRACE.
    private static final long[] TRACES = {1, 11, 101, 1011, 10101, 100001};

    private KindsSentences() {
    }

    static void all() throws Exception {
        rate();
        rateRefused();
        keep();
        back();
        backNothingElse();
        count();
        trace();
        refusedInOrder();
        refusedWhereAllIsFull();
        wholeRun();
    }

    private static void due(String call, long got, long want) {
        Sentence.due(call, got, want);
    }

    private static void refused(String call, Supplier<WarmBottles> made,
            ToLongFunction<WarmBottles> ask, long want) {
        Sentence.changesNothing(call, made, ask, want);
    }

    private static void rates(int kind, int... dues) {
        for (int b = 0; b < dues.length; b++) {
            // 20 3 5; 7 9 50; 0 9 0; the KETTLE has 4.
            WarmBottles x = Wards.told("b20 3 5;b7 9 50;b0 9 0;k4;");
            due("rate(" + kind + ", " + b + ")", x.rate(kind, b), dues[b]);
            due("trace() behind it", x.trace(), TRACES[kind]);
            due("nothing to undo", x.now(5), 0);
        }
    }

    private static void rate() {
        Sentence.holds(22, "BOTTLE how WARM it is (1).", () -> {
            rates(0, 20, 7, 0);
            WarmBottles x = Wards.told("b20 3 5;");
            x.hour();
            due("as it is NOW", x.rate(0, 0), 17);
        });
        Sentence.holds(22, "BOSUN up, and SPEAKS (10).", () -> rates(1, 25, 57, 0));
        Sentence.holds(22, "COOK up less COOLS (100).", () -> {
            rates(2, 17, -2, -9);
            WarmBottles x = Wards.told("b20 3 5;b1 1 1;");
            x.frosts(5);
            x.lays(1, 0);
            due("FROST and others are nothing to it", x.rate(2, 0), 17);
        });
        Sentence.holds(22, "MATE twice up (1000).", () -> rates(3, 50, 114, 0));
        Sentence.holds(22, "STOKER up, and its number (10000).", () -> {
            rates(4, 17, -1, -7);
            due("the last of six", Wards.told(Wards.SIX).rate(4, 5), 37);
        });
        Sentence.holds(22, "MATRON up, and what the KETTLE has (100000).", () -> {
            rates(5, 24, 11, 4);
            WarmBottles x = Wards.told("b20 3 5;k4;p1;");
            x.fills(0, 3);
            due("has, not told", x.rate(5, 0), 24);
            due("up: BOTTLE", Wards.told("b99 1 99;k60;").rate(5, 0), 159);
        });
        Sentence.holds(22, "KINDS of BOTTLES are over one another: 0 BOTTLE; 1 BOSUN, 2 COOK, 5 MATRON (each under"
                + " BOTTLE); 3 MATE (under BOSUN); 4 STOKER (under COOK).", () -> {
            int[] dues = {99, 198, 90, 396, 95, 159};
            for (int kind = 0; kind <= 5; kind++) {
                due("kind " + kind + " of the sixth", Wards.told("b1 1 1;b1 1 1;b1 1 1;b1 1 1;b1 1 1;b99 9 99;k60;")
                        .rate(kind, 5), dues[kind]);
            }
        });
        Sentence.holds(22, "RATE of one as if of a KIND (numbers in brackets are added to THE TRACE, 0 at first, as"
                + " often as rate() asks that body: each once; \"up\" is what the KIND above does):", () -> {
            WarmBottles x = Wards.busy();
            long trace = 10101;
            for (int kind = 0; kind <= 5; kind++) {
                x.rate(kind, 1);
                trace += TRACES[kind];
                due("behind kind " + kind, x.trace(), trace);
                x.rate(kind, 3);
                trace += TRACES[kind];
                due("and once more", x.trace(), trace);
            }
            due("0 at first", new WarmBottles().trace(), 0);
            for (int kind = 0; kind <= 5; kind++) {
                int each = kind;
                Sentence.same("nothing else is changed", withoutTrace(Wards.seen(rated(each))),
                        withoutTrace(Wards.seen(Wards.busy())));
            }
        });
    }

    private static WarmBottles rated(int kind) {
        WarmBottles x = Wards.busy();
        x.rate(kind, 0);
        return x;
    }

    private static String withoutTrace(String seen) {
        return seen.substring(0, seen.lastIndexOf(' '));
    }

    private static void rateRefused() {
        Sentence.holds(22, "RATE. NO: BAD.", () -> {
            for (int number : new int[] {-1, 6, Wards.FAR, Wards.FAR_BELOW}) {
                refused("rate(" + number + ", 0)", Wards::busy, x -> x.rate(number, 0), NO);
                refused("rate(0, " + number + ")", Wards::busy, x -> x.rate(0, number), NO);
                refused("rate(" + number + ", " + number + ")", Wards::busy, x -> x.rate(number, number), NO);
            }
            for (int kind = 0; kind <= 5; kind++) {
                int each = kind;
                refused("rate(" + kind + ", 4) of four", Wards::busy, x -> x.rate(each, 4), NO);
                refused("rate(" + kind + ", -1)", Wards::busy, x -> x.rate(each, -1), NO);
                due("rate(" + kind + ", 6) of six", Wards.told(Wards.SIX).rate(kind, 6), NO);
                due("rate(" + kind + ", 0) of none", new WarmBottles().rate(kind, 0), NO);
            }
        });
        Sentence.holds(22, "`NO = -1000000`: What is BAD, where a number may be below 0.", () -> {
            due("NO", new WarmBottles().rate(0, 0), -1000000);
            due("BAD's number is a rate, too", Wards.told("b8 9 1;").rate(2, 0), -1);
        });
    }

    private static void keep() {
        Sentence.holds(23, "An IMAGE is kept: HOUR. BAD.", () -> {
            due("keep(0)", new WarmBottles().keep(0), 0);
            due("keep(1)", new WarmBottles().keep(1), 0);
            due("keep(0) at HOUR 1", Wards.busy().keep(0), 1);
            due("keep(1) at HOUR 7", Wards.afterHours("b9 1 1;", 7).keep(1), 7);
            for (int image : new int[] {-1, 2, Wards.FAR, Wards.FAR_BELOW}) {
                refused("keep(" + image + ")", Wards::busy, x -> x.keep(image), BAD);
            }
            for (int image = 0; image <= 1; image++) {
                WarmBottles x = Wards.busy();
                x.keep(image);
                Sentence.same("nothing is changed but the image", Wards.seen(x), Wards.seen(Wards.busy()));
                due("what may be undone stays", x.undo(), 3);
            }
        });
        Sentence.holds(23, "IMAGES 0, 1 keep NOW", () -> {
            WarmBottles x = Wards.told("b50 1 1;");
            x.keep(0);
            x.hour();
            x.keep(1);
            x.hour();
            due("0 is as it was", x.back(0), 0);
            due("WARM", x.bottle(0, 0), 50);
            due("1 is as it was", x.back(1), 1);
            due("WARM", x.bottle(0, 0), 49);
            x.hour();
            x.hour();
            due("0 is kept anew", x.keep(0), 3);
            due("1 stays", x.back(1), 1);
            due("0 is the later one", x.back(0), 3);
            due("WARM", x.bottle(0, 0), 47);
            x.spills(0);
            due("an image is not what goes on", x.back(0), 3);
            due("WARM", x.bottle(0, 0), 47);
            due("as often as asked", x.back(0), 3);
        });
    }

    private static void back() {
        Sentence.holds(24, "All of that becomes as an IMAGE has it: HOUR. BAD; STATE: none was kept.", () -> {
            refused("back(0) of a new one", WarmBottles::new, x -> x.back(0), STATE);
            refused("back(1) of a new one", WarmBottles::new, x -> x.back(1), STATE);
            refused("back(0), where 1 was kept", Wards::busy, x -> x.back(0), STATE);
            for (int image : new int[] {-1, 2, Wards.FAR, Wards.FAR_BELOW}) {
                refused("back(" + image + ")", Wards::busy, x -> x.back(image), BAD);
                refused("back(" + image + ") of a new one", WarmBottles::new, x -> x.back(image), BAD);
            }
            WarmBottles x = Wards.told("b50 1 1;");
            x.keep(0);
            due("back(1), where 0 was kept", x.back(1), STATE);
            due("back(0)", x.back(0), 0);
        });
        Sentence.holds(24, "(HOUR, FROST, what the KETTLE has, how WARM all are, where they lie)", () -> {
            comesBack("HOUR", x -> x.hour());
            comesBack("FROST", x -> x.frosts(8));
            comesBack("the KETTLE", x -> x.boils());
            comesBack("WARM", x -> x.spills(0));
            comesBack("WARM by a pint", x -> x.fills(2, 1));
            comesBack("where 0 lies", x -> x.lays(0, 3));
            comesBack("where 1 lies", x -> x.lays(1, 1));
            comesBack("all of it", x -> {
                x.hour();
                x.frosts(8);
                x.boils();
                x.spills(0);
                x.fills(3, 9);
                x.lays(3, 0);
            });
            WarmBottles x = Wards.told(Wards.SIX);
            x.keep(1);
            for (int b = 0; b < 6; b++) {
                x.spills(b);
                x.lays(b, (b + 3) % 6);
            }
            x.back(1);
            Sentence.same("of six", Wards.seen(x), Wards.seen(Wards.told(Wards.SIX)));
        });
        Sentence.holds(24, "(nothing can be UNDONE behind back())", () -> {
            WarmBottles x = Wards.busy();
            x.keep(0);
            due("back(0) at once", x.back(0), 1);
            due("now(5)", x.now(5), 0);
            due("undo()", x.undo(), STATE);
            x.hour();
            x.hour();
            due("what is done behind it can", x.undo(), 1);
            due("HOUR", x.undo(), 0);
            due("undo()", x.undo(), STATE);
            due("HOUR", x.now(0), 1);
            x = Wards.afterHours("b99 1 1;", 15);
            x.keep(1);
            x.back(1);
            due("where older ones were lost", x.undo(), STATE);
            due("HOUR", x.now(0), 15);
        });
    }

    /** What is done behind keep() is gone behind back(), and only it. */
    private static void comesBack(String what, Consumer<WarmBottles> act) {
        Supplier<WarmBottles> undisturbed = () -> {
            WarmBottles x = Wards.busy();
            x.keep(0);
            x.back(0);
            return x;
        };
        Supplier<WarmBottles> made = () -> {
            WarmBottles x = Wards.busy();
            x.keep(0);
            act.accept(x);
            due("back(0)", x.back(0), 1);
            return x;
        };
        Sentence.same(what + " comes back", Wards.everything(made), Wards.everything(undisturbed));
        WarmBottles x = Wards.busy();
        act.accept(x);
        Sentence.same(what + " was another", Wards.seen(x).equals(Wards.seen(Wards.busy())) + "", "false");
    }

    private static void backNothingElse() {
        Sentence.holds(24, "; nothing else", () -> {
            WarmBottles x = Wards.busy();
            x.keep(0);
            x.hears(0, 1);
            x.hears(0, 1);
            x.rate(5, 0);
            Wards.type(x, " 3;");
            x.back(0);
            due("HEARD stays", x.count(3), 3);
            due("THE TEXT stays", x.count(4), 11);
            due("THE TRACE goes on", x.trace(), 110102);
            x.forget();
            x.back(0);
            due("nothing HEARD stays so", x.count(3), 0);
            due("the other image stays", x.back(1), 1);
            due("its KETTLE", x.now(2), 9);
            due("THE TEXT is read", x.ward(), 2);
            due("told anew: the image is gone", x.back(0), STATE);
            x = Wards.told("k9;p7;b40 5 20;");
            x.keep(0);
            x.back(0);
            due("KETTLE as told stays", x.count(1), 9);
            due("PINT stays", x.count(2), 7);
            due("COOLS stays", x.bottle(0, 1), 5);
            due("SPEAKS stays", x.bottle(0, 2), 20);
        });
    }

    private static void count() {
        Sentence.holds(25, "0 BOTTLES, 1 KETTLE as told, 2 PINT, 3 HEARD, 4 letters of THE TEXT. BAD.", () -> {
            int[] dues = {4, 9, 7, 1, 8};
            int[] first = {0, 10, 10, 0, 0};
            for (int what = 0; what <= 4; what++) {
                int asked = what;
                Sentence.changesNothing("count(" + what + ")", Wards::busy, x -> x.count(asked), dues[what]);
                Sentence.changesNothing("count(" + what + ")", WarmBottles::new, x -> x.count(asked), first[what]);
            }
            for (int what : new int[] {-1, 5, Wards.FAR, Wards.FAR_BELOW}) {
                refused("count(" + what + ")", Wards::busy, x -> x.count(what), BAD);
            }
        });
    }

    private static void trace() throws Exception {
        Sentence.holds(26, "THE TRACE.", () -> {
            Sentence.changesNothing("trace()", Wards::busy, x -> x.trace(), 10101);
            Sentence.changesNothing("trace()", WarmBottles::new, x -> x.trace(), 0);
            WarmBottles x = Wards.busy();
            WarmBottles other = Wards.busy();
            other.rate(5, 0);
            due("each object its own", x.trace(), 10101);
            due("and the other its own", other.trace(), 110102);
        });
        Sentence.holds(26, "THE TRACE goes on, as behind undo(), back().)", () -> {
            WarmBottles x = Wards.busy();
            x.undo();
            due("behind undo()", x.trace(), 10101);
            x.back(1);
            due("behind back()", x.trace(), 10101);
            x.clear();
            x.ward();
            due("behind ward()", x.trace(), 10101);
            Wards.type(x, "b1 1 1;");
            x.ward();
            x.rate(0, 0);
            due("and on", x.trace(), 10102);
            x.forget();
            x.keep(0);
            x.back(0);
            x.rate(1, 0);
            due("and on", x.trace(), 10113);
        });
    }

    private static void refusedInOrder() {
        Sentence.holds(22, "Refused, and nothing changes, the first of these: BAD (a number is not as told, or there"
                + " is no such thing), STATE (as told), FULL.", () -> {
            due("BAD", WarmBottles.BAD, -1);
            due("STATE", WarmBottles.STATE, -2);
            due("FULL", WarmBottles.FULL, -3);
            due("NONE", WarmBottles.NONE, NONE);
            due("NO", WarmBottles.NO, NO);
            Supplier<WarmBottles> poor = KindsSentences::poor;
            refused("fills: BAD, not STATE", poor, x -> x.fills(0, 10), BAD);
            refused("fills: BAD, not STATE", poor, x -> x.fills(2, 9), BAD);
            refused("fills: STATE", poor, x -> x.fills(0, 9), STATE);
            refused("lays: BAD", poor, x -> x.lays(2, 2), BAD);
            refused("frosts: BAD", poor, x -> x.frosts(-1), BAD);
            refused("back: BAD, not STATE", poor, x -> x.back(2), BAD);
            refused("type: BAD, not FULL", poor, x -> x.type(-1), BAD);
            refused("type: FULL", poor, x -> x.type(0), FULL);
            refused("hears: BAD, not FULL", poor, x -> x.hears(0, 3), BAD);
            refused("hears: FULL", poor, x -> x.hears(0, 2), FULL);
        });
    }

    private static void refusedWhereAllIsFull() {
        Sentence.holds(13, "Refused, and nothing changes", () -> {
            Supplier<WarmBottles> full = Wards::crowded;
            due("ten may be undone", full.get().now(5), 10);
            due("HEARD", full.get().count(3), 6);
            due("letters", full.get().count(4), 120);
            refused("type(256)", full, x -> x.type(256), BAD);
            refused("type(32)", full, x -> x.type(32), FULL);
            refused("ward()", full, x -> x.ward(), -130);
            refused("bottle(6, 0)", full, x -> x.bottle(6, 0), BAD);
            refused("now(6)", full, x -> x.now(6), BAD);
            refused("fills(6, 1)", full, x -> x.fills(6, 1), BAD);
            refused("fills(0, 10)", full, x -> x.fills(0, 10), BAD);
            refused("lays(0, 6)", full, x -> x.lays(0, 6), BAD);
            refused("lays(6, 0)", full, x -> x.lays(6, 0), BAD);
            refused("spills(6)", full, x -> x.spills(6), BAD);
            refused("frosts(10)", full, x -> x.frosts(10), BAD);
            refused("frosts(1)", full, x -> x.frosts(1), STATE);
            refused("morning(41, 0)", full, x -> x.morning(41, 0), BAD);
            refused("kept(2)", full, x -> x.kept(2), BAD);
            refused("beds(6)", full, x -> x.beds(6), BAD);
            refused("odds(0, 11, 1, 0)", full, x -> x.odds(0, 11, 1, 0), BAD);
            refused("hears(10, 0)", full, x -> x.hears(10, 0), BAD);
            refused("hears(0, 0)", full, x -> x.hears(0, 0), FULL);
            refused("rate(0, 6)", full, x -> x.rate(0, 6), NO);
            refused("rate(6, 0)", full, x -> x.rate(6, 0), NO);
            refused("keep(2)", full, x -> x.keep(2), BAD);
            refused("back(2)", full, x -> x.back(2), BAD);
            refused("count(5)", full, x -> x.count(5), BAD);
            for (int b = 0; b < 6; b++) {
                int each = b;
                int bed = full.get().bottle(b, 3);
                refused("fills(" + b + ", 2)", full, x -> x.fills(each, 2), STATE);
                refused("lays(" + b + ", " + bed + ")", full, x -> x.lays(each, bed), STATE);
                if (full.get().bottle(b, 0) == 0) {
                    refused("spills(" + b + ")", full, x -> x.spills(each), STATE);
                }
            }
            due("boils()", full.get().boils(), 1);
        });
        Sentence.holds(13, "Refused, and nothing changes, the first of these", () -> {
            Supplier<WarmBottles> boiled = () -> {
                WarmBottles x = Wards.crowded();
                x.boils();
                return x;
            };
            refused("boils()", boiled, x -> x.boils(), STATE);
            Supplier<WarmBottles> late = () -> {
                WarmBottles x = Wards.afterHours(Wards.SIX, 998);
                x.keep(0);
                for (int b = 0; b < 5; b++) {
                    x.fills(b, 1);
                    x.lays(b, b + 1);
                }
                x.hour();
                return x;
            };
            refused("hour() at 999", late, x -> x.hour(), STATE);
            Supplier<WarmBottles> undone = () -> {
                WarmBottles x = Wards.crowded();
                for (int i = 0; i < 10; i++) {
                    x.undo();
                }
                return x;
            };
            refused("undo()", undone, x -> x.undo(), STATE);
        });
    }

    /** Nothing is left, and there is no room: KETTLE 0, six heard, 120 letters. */
    private static WarmBottles poor() {
        WarmBottles x = Wards.told("b20 3 5;b0 1 1;k0;");
        for (int heard = 0; heard < 6; heard++) {
            x.hears(1, 2);
        }
        Wards.type(x, " ".repeat(116) + "b7 2");
        return x;
    }

    private static void wholeRun() {
        Sentence.holds(26, "An object is used for at most 512 calls after it has been made", () -> {
            // 25 letters, ward(), 121 rounds of 4, the last two.
            WarmBottles x = Wards.told("b99 1 50;b90 2 40;k60;p9;");
            for (int round = 1; round <= 121; round++) {
                x.hour();
                x.fills(1, 1);
                x.rate(3, 1);
                due("LASTS in HOUR " + round, x.bottle(0, 5), Math.max(0, 99 - round));
            }
            due("HOUR", x.now(0), 121);
            due("call 512: THE TRACE", x.trace(), 121 * 1011);
        });
    }
}

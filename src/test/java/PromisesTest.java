/**
 * Each promise of the document by itself: ordinary calls, the edges it names, and what is refused.
 * What is due was reckoned by hand from the document.
 */
public final class PromisesTest {
    private static final int BAD = -1, STATE = -2, FULL = -3, NONE = -9, NO = -1000000;
    private static final int FAR = Integer.MAX_VALUE;
    private static final int FAR_BELOW = Integer.MIN_VALUE;

    public static void main(String[] args) {
        promise1();
        promise2();
        promise3();
        promise4();
        promise4Faults();
        promise5();
        promise6();
        promise7();
        promise8();
        promise9();
        promise10();
        promise11();
        promise12();
        promise13();
        promise14();
        promise15();
        promise16();
        promise17();
        promise18();
        promise19();
        promise20();
        promise21();
        promise22();
        promise23();
        promise24();
        promise25();
        promise26();
        sixBottles();
        Check.end("PromisesTest");
    }

    private static void due(String call, long got, long want) {
        Check.due(call, got, want);
    }

    private static void type(WarmBottles x, String text) {
        for (int i = 0; i < text.length(); i++) {
            x.type(text.charAt(i));
        }
    }

    private static WarmBottles told(String text) {
        WarmBottles x = new WarmBottles();
        type(x, text);
        Check.isTrue("ward() reads " + text, x.ward() >= 0);
        return x;
    }

    /** What ward() answers to a text, which is cleared again. */
    private static void reads(String text, int want) {
        WarmBottles x = new WarmBottles();
        type(x, text);
        due("ward() of \"" + text + "\"", x.ward(), want);
        due("letters behind \"" + text + "\"", x.count(4), want < 0 ? text.length() : 0);
    }

    private static void promise1() {
        WarmBottles x = new WarmBottles();
        due("1: bottles", x.count(0), 0);
        due("1: kettle as told", x.count(1), 10);
        due("1: pint", x.count(2), 10);
        due("1: heard", x.count(3), 0);
        due("1: letters", x.count(4), 0);
        due("1: hour", x.now(0), 0);
        due("1: frost", x.now(1), 0);
        due("1: kettle", x.now(2), 10);
        due("1: all", x.now(3), NONE);
        due("1: above 0", x.now(4), 0);
        due("1: undo", x.now(5), 0);
        due("1: trace", x.trace(), 0);
        due("1: image 0", x.back(0), STATE);
        due("1: image 1", x.back(1), STATE);
        due("1: bottle 0", x.bottle(0, 0), BAD);
        due("1: undone", x.undo(), STATE);
    }

    private static void promise2() {
        WarmBottles x = new WarmBottles();
        due("2: 0 is a letter", x.type(0), 1);
        due("2: 255 is a letter", x.type(255), 2);
        due("2: 256 isn't", x.type(256), BAD);
        due("2: -1 isn't", x.type(-1), BAD);
        due("2: far", x.type(FAR), BAD);
        due("2: far below", x.type(FAR_BELOW), BAD);
        due("2: refused changes nothing", x.count(4), 2);
        for (int letter = 3; letter <= 120; letter++) {
            due("2: letter " + letter, x.type(' '), letter);
        }
        due("2: full", x.type(' '), FULL);
        due("2: BAD is ahead of FULL", x.type(256), BAD);
        due("2: still full", x.count(4), 120);
        due("2: letter 0 is a fault", x.ward(), -10);
    }

    private static void promise3() {
        WarmBottles x = new WarmBottles();
        due("3: empty", x.clear(), 0);
        type(x, "b5 2");
        due("3: four", x.clear(), 4);
        due("3: empty again", x.clear(), 0);
        type(x, " 1 1;");
        due("3: what was cleared isn't read", x.ward(), -11);
        type(x, "k1;");
        x.clear();
        due("3: an empty text has no items", x.ward(), 0);
    }

    private static void promise4() {
        reads("", 0);
        reads("    ", 0);
        reads("k60;", 1);
        reads("k0;", 1);
        reads("p1;", 1);
        reads("p30;", 1);
        reads("b0 1 0;", 1);
        reads("b99 9 99;", 1);
        reads("  b  5   2 3 ;  k 7 ;p   4;  ", 3);
        reads("b1 1 1;b2 2 2;k5;b3 3 3;b4 4 4;p6;b5 5 5;b6 6 6;", 8);
        WarmBottles x = told("p7;b10 2 5;k33;b20 3 6;");
        due("4: bottles", x.count(0), 2);
        due("4: kettle", x.count(1), 33);
        due("4: pint", x.count(2), 7);
        due("4: kettle has", x.now(2), 33);
        due("4: warm 0", x.bottle(0, 0), 10);
        due("4: cools 0", x.bottle(0, 1), 2);
        due("4: speaks 0", x.bottle(0, 2), 5);
        due("4: bed 0", x.bottle(0, 3), 0);
        due("4: warm 1", x.bottle(1, 0), 20);
        due("4: cools 1", x.bottle(1, 1), 3);
        due("4: speaks 1", x.bottle(1, 2), 6);
        due("4: bed 1", x.bottle(1, 3), 1);
        promise4Anew(x);
    }

    private static void promise4Anew(WarmBottles x) {
        x.hour();
        x.frosts(4);
        x.lays(0, 1);
        x.hears(0, 1);
        x.rate(0, 0);
        x.keep(0);
        x.keep(1);
        type(x, "k1;p1;b1 1 1;q");
        due("4: a fault", x.ward(), -23);
        due("4: a fault leaves the hour", x.now(0), 1);
        due("4: a fault leaves the bottles", x.count(0), 2);
        due("4: a fault leaves a bottle", x.bottle(0, 0), 8);
        due("4: a fault leaves the kettle as told", x.count(1), 33);
        due("4: a fault leaves what is undone", x.now(5), 3);
        due("4: a fault leaves what was heard", x.count(3), 1);
        due("4: a fault leaves the text", x.clear(), 14);
        due("4: a fault leaves the images", x.back(1), 1);
        x.fills(0, 1);
        type(x, "b5 1 9;");
        due("4: anew", x.ward(), 1);
        due("4: anew, the text", x.count(4), 0);
        due("4: anew, the hour", x.now(0), 0);
        due("4: anew, frost", x.now(1), 0);
        due("4: anew, the kettle at first", x.now(2), 10);
        due("4: anew, the kettle as told", x.count(1), 10);
        due("4: anew, pint at first", x.count(2), 10);
        due("4: anew, bottles", x.count(0), 1);
        due("4: anew, its bed", x.bottle(0, 3), 0);
        due("4: anew, its warmth", x.bottle(0, 0), 5);
        due("4: anew, heard", x.count(3), 0);
        due("4: anew, undone", x.undo(), STATE);
        due("4: anew, image 0", x.back(0), STATE);
        due("4: anew, image 1", x.back(1), STATE);
        due("4: anew, the trace goes on", x.trace(), 1);
        type(x, "k2;p3;");
        due("4: k and p once in each text", x.ward(), 2);
        type(x, "k4;p5;");
        due("4: and in the next", x.ward(), 2);
        due("4: the latest kettle", x.count(1), 4);
        due("4: the latest pint", x.count(2), 5);
        due("4: no items, no bottles", x.ward(), 0);
        due("4: none is left", x.count(0), 0);
    }

    private static void promise4Faults() {
        reads("x", -10);
        reads("   x", -13);
        reads("\t", -10);
        reads(";", -10);
        reads("5", -10);
        reads("B1 1 1;", -10);
        reads("k;", -11);
        reads("kk", -11);
        reads("k61;", -11);
        reads("k 61;", -12);
        reads("k100;", -11);
        reads("k 99999999999999999999;", -12);
        reads("k4294967297;", -11);
        reads("k05;", -11);
        reads("k00;", -11);
        reads("k5 5;", -13);
        reads("k5;k5;", -13);
        reads("k5;  k5;", -15);
        reads("p0;", -11);
        reads("p31;", -11);
        reads("p5;p", -13);
        reads("p5b", -12);
        reads("b1 1 1", -16);
        reads("b1 1 1  ", -18);
        reads("b1 1 1 1;", -17);
        reads("b1 1;", -14);
        reads("b1 0 1;", -13);
        reads("b1 10 1;", -13);
        reads("b1 9 100;", -15);
        reads("b100 1 1;", -11);
        reads("b1,1", -12);
        reads("b", -11);
        reads("k", -11);
        reads("k5", -12);
        reads("p5   ", -15);
        reads("b01 1 1;", -11);
        reads(" ".repeat(120), 0);
        reads(" ".repeat(119) + "5", -129);
        reads(" ".repeat(118) + "k5", -130);
        reads(" ".repeat(117) + "k5;", 1);
        reads("k" + "5".repeat(119), -11);
        reads("k" + " ".repeat(119), -130);
        String six = "b1 1 1;b1 1 1;b1 1 1;b1 1 1;b1 1 1;b1 1 1;";
        reads(six, 6);
        reads(six + "b", -52);
        reads(six + "  b1 1 1;", -54);
        reads(six + "k1;p1;", 8);
    }

    private static void promise5() {
        WarmBottles x = told("b20 3 20;b19 3 20;b0 1 0;b99 1 99;");
        int[][] dues = {{20, 3, 20, 0, 2, 7}, {19, 3, 20, 1, 1, 7}, {0, 1, 0, 2, 0, 0},
            {99, 1, 99, 3, 2, 99}};
        for (int b = 0; b < dues.length; b++) {
            for (int what = 0; what <= 5; what++) {
                due("5: bottle(" + b + ", " + what + ")", x.bottle(b, what), dues[b][what]);
            }
        }
        due("5: no bottle 4", x.bottle(4, 0), BAD);
        due("5: no bottle -1", x.bottle(-1, 0), BAD);
        due("5: no bottle far", x.bottle(FAR, 0), BAD);
        due("5: no 6", x.bottle(0, 6), BAD);
        due("5: no -1", x.bottle(0, -1), BAD);
        x.frosts(2);
        due("5: lasts in frost", x.bottle(0, 5), 4);
        x.lays(0, 3);
        due("5: lasts beside one", x.bottle(0, 5), 7);
        due("5: its bed", x.bottle(0, 3), 3);
        x.lays(1, 3);
        due("5: lasts beside two", x.bottle(0, 5), 20);
        x.lays(2, 3);
        due("5: lasts beside three: 1 an hour at least", x.bottle(0, 5), 20);
        due("5: the sound is that of now", x.bottle(0, 4), 2);
        x.hour();
        due("5: the sound an hour later", x.bottle(0, 4), 1);
        x = told("b10 5 0;b9 3 0;");
        due("5: 10 by 5", x.bottle(0, 5), 2);
        due("5: 9 by 3", x.bottle(1, 5), 3);
        due("5: speaks at 0", x.bottle(0, 4), 2);
    }

    private static void promise6() {
        WarmBottles x = told("b20 3 5;b7 2 5;b0 4 5;k3;");
        due("6: hour", x.now(0), 0);
        due("6: all is the least", x.now(3), 0);
        due("6: above 0", x.now(4), 2);
        x.fills(2, 3);
        due("6: kettle", x.now(2), 0);
        due("6: all by the second", x.now(3), 4);
        due("6: above 0", x.now(4), 3);
        x.frosts(6);
        due("6: frost", x.now(1), 6);
        due("6: all in frost", x.now(3), 1);
        x.hour();
        due("6: hour", x.now(0), 1);
        due("6: undone", x.now(5), 3);
        due("6: 1 is above 0, too", told("b1 1 1;b0 1 1;").now(4), 1);
        due("6: all of one", told("b99 1 1;").now(3), 99);
        due("6: all of one in frost", told("b10 9 1;").now(3), 2);
        due("6: no 6", x.now(6), BAD);
        due("6: no -1", x.now(-1), BAD);
        due("6: no far", x.now(FAR), BAD);
    }

    private static void promise7() {
        WarmBottles x = told("b20 3 5;b7 2 5;b1 4 5;");
        due("7: one goes cold", x.hour(), 2);
        due("7: 3 less", x.bottle(0, 0), 17);
        due("7: 2 less", x.bottle(1, 0), 5);
        due("7: not below 0", x.bottle(2, 0), 0);
        due("7: the hour", x.now(0), 1);
        x.frosts(9);
        x.lays(2, 0);
        due("7: a cold one warms, too", x.hour(), 1);
        due("7: 3 and 9 less 2", x.bottle(0, 0), 7);
        due("7: 2 and 9", x.bottle(1, 0), 0);
        x = told("b20 3 5;b20 2 5;b20 9 5;");
        x.lays(0, 2);
        x.lays(1, 2);
        due("7: three together", x.hour(), 3);
        due("7: 3 less 4 is 1", x.bottle(0, 0), 19);
        due("7: 2 less 4 is 1", x.bottle(1, 0), 19);
        due("7: 9 less 4", x.bottle(2, 0), 15);
        x = new WarmBottles();
        // Past the 512th call nothing is promised, but the document names 999.
        for (int hour = 1; hour <= 999; hour++) {
            x.hour();
        }
        due("7: hour 999", x.now(0), 999);
        due("7: no hour more", x.hour(), STATE);
        due("7: still 999", x.now(0), 999);
        due("7: nothing more is undone", x.now(5), 10);
    }

    private static void promise8() {
        WarmBottles x = told("b5 2 3;b90 1 1;k12;p4;");
        due("8: one pint", x.fills(0, 1), 9);
        due("8: the kettle", x.now(2), 11);
        due("8: nine pints", x.fills(0, 9), 45);
        due("8: the kettle", x.now(2), 2);
        due("8: too little", x.fills(1, 3), STATE);
        due("8: refused leaves the kettle", x.now(2), 2);
        due("8: 98", x.fills(1, 2), 98);
        x.boils();
        due("8: 99 at most", x.fills(1, 1), 99);
        due("8: a full one, too", x.fills(1, 1), 99);
        due("8: the kettle pays", x.now(2), 10);
        due("8: what it is", x.bottle(1, 0), 99);
        due("8: n 0", x.fills(0, 0), BAD);
        due("8: n 10", x.fills(0, 10), BAD);
        due("8: n far below", x.fills(0, FAR_BELOW), BAD);
        due("8: no bottle 2", x.fills(2, 1), BAD);
        due("8: no bottle -1", x.fills(-1, 1), BAD);
        x.fills(1, 9);
        due("8: BAD is ahead of STATE", x.fills(2, 9), BAD);
        due("8: nine of one", x.fills(0, 9), STATE);
        x = told("b0 1 1;k9;p30;");
        due("8: all of the kettle", x.fills(0, 9), 99);
        due("8: none left", x.now(2), 0);
    }

    private static void promise9() {
        WarmBottles x = told("b20 3 5;b7 2 5;b1 4 5;");
        due("9: it is there", x.lays(1, 1), STATE);
        due("9: nothing to undo", x.now(5), 0);
        due("9: from its own", x.lays(1, 0), 1);
        due("9: its bed", x.bottle(1, 3), 0);
        due("9: it is there now", x.lays(1, 0), STATE);
        due("9: into an empty bed", x.lays(0, 1), 0);
        due("9: from bed 0", x.lays(1, 2), 0);
        due("9: no bed 3", x.lays(0, 3), BAD);
        due("9: no bed -1", x.lays(0, -1), BAD);
        due("9: no bottle 3", x.lays(3, 0), BAD);
        due("9: no bottle -1", x.lays(-1, 0), BAD);
        due("9: far", x.lays(FAR, FAR), BAD);
        due("9: beds as laid", x.bottle(0, 3) * 100 + x.bottle(1, 3) * 10 + x.bottle(2, 3), 122);
    }

    private static void promise10() {
        WarmBottles x = told("b20 3 5;b0 2 5;");
        due("10: was 20", x.spills(0), 20);
        due("10: is 0", x.bottle(0, 0), 0);
        due("10: again", x.spills(0), STATE);
        due("10: cold at first", x.spills(1), STATE);
        due("10: one to undo", x.now(5), 1);
        due("10: no bottle 2", x.spills(2), BAD);
        due("10: no bottle -1", x.spills(-1), BAD);
    }

    private static void promise11() {
        WarmBottles x = told("b20 3 5;");
        due("11: it is 0", x.frosts(0), STATE);
        due("11: 9", x.frosts(9), 0);
        due("11: it is 9", x.frosts(9), STATE);
        due("11: 4", x.frosts(4), 9);
        due("11: 10", x.frosts(10), BAD);
        due("11: -1", x.frosts(-1), BAD);
        due("11: is 4", x.now(1), 4);
        due("11: 0", x.frosts(0), 4);
        due("11: three to undo", x.now(5), 3);
    }

    private static void promise12() {
        WarmBottles x = told("b20 3 5;k8;");
        due("12: as told", x.boils(), STATE);
        due("12: nothing to undo", x.now(5), 0);
        x.fills(0, 5);
        due("12: had 3", x.boils(), 3);
        due("12: has 8", x.now(2), 8);
        due("12: as told again", x.boils(), STATE);
        x = told("b20 3 5;");
        x.fills(0, 9);
        due("12: had 1", x.boils(), 1);
        due("12: 10 at first", x.now(2), 10);
        x = told("k0;");
        due("12: an empty one", x.boils(), STATE);
    }

    private static void promise13() {
        WarmBottles x = told("b20 3 5;b30 4 5;k8;p5;");
        x.hour();
        x.fills(0, 2);
        x.lays(0, 1);
        x.spills(1);
        x.frosts(3);
        x.boils();
        x.hears(1, 1);
        x.rate(0, 0);
        due("13: boils", x.undo(), 5);
        due("13: the kettle", x.now(2), 6);
        due("13: frosts", x.undo(), 4);
        due("13: the frost", x.now(1), 0);
        due("13: spills", x.undo(), 3);
        due("13: its warmth", x.bottle(1, 0), 26);
        due("13: lays", x.undo(), 2);
        due("13: its bed", x.bottle(0, 3), 0);
        due("13: fills", x.undo(), 1);
        due("13: its warmth", x.bottle(0, 0), 17);
        due("13: the kettle", x.now(2), 8);
        due("13: hour", x.undo(), 0);
        due("13: the hour", x.now(0), 0);
        due("13: warm 0", x.bottle(0, 0), 20);
        due("13: warm 1", x.bottle(1, 0), 30);
        due("13: none", x.undo(), STATE);
        due("13: heard stays", x.count(3), 1);
        due("13: the trace goes on", x.trace(), 1);
        promise13Ten();
    }

    private static void promise13Ten() {
        WarmBottles x = told("b99 1 5;");
        for (int hour = 1; hour <= 13; hour++) {
            x.hour();
            due("13: known behind " + hour, x.now(5), Math.min(10, hour));
        }
        x.undo();
        x.undo();
        x.frosts(1);
        due("13: nine again", x.now(5), 9);
        due("13: not the refused", x.frosts(1), STATE);
        for (int left = 8; left >= 0; left--) {
            due("13: left", x.undo(), left);
        }
        due("13: the oldest are lost", x.undo(), STATE);
        due("13: the hour", x.now(0), 3);
        due("13: the warmth", x.bottle(0, 0), 96);
    }

    private static void promise14() {
        WarmBottles x = told("b20 3 5;b7 2 5;k0;p4;");
        due("14: 20 less 3 in 1", x.morning(1, 0), 0);
        due("14: 20 less 18 in 6", x.morning(6, 0), 0);
        due("14: 20 less 21 in 7", x.morning(7, 0), 1);
        due("14: 24 less 24 in 8", x.morning(8, 0), 2);
        due("14: 56 less 54 in 18", x.morning(18, 0), 9);
        due("14: 56 less 57 in 19", x.morning(19, 0), NONE);
        due("14: 7 less 16 in 8", x.morning(8, 1), 3);
        due("14: both in 8", x.morning(8, -1), 5);
        due("14: both in 18: 7 and 32 less 36", x.morning(18, -1), 17);
        due("14: one of them can't", x.morning(19, -1), NONE);
        due("14: nothing is changed", x.bottle(0, 0), 20);
        due("14: n 0", x.morning(0, 0), BAD);
        due("14: n 41", x.morning(41, 0), BAD);
        due("14: no bottle 2", x.morning(1, 2), BAD);
        due("14: no bottle -2", x.morning(1, -2), BAD);
        due("14: n is seen for all, too", x.morning(41, -1), BAD);
        x = told("b1 3 5;p30;");
        due("14: 99 less 99", x.morning(33, 0), NONE);
        due("14: 99 less 96", x.morning(32, 0), 4);
        x.frosts(2);
        due("14: 31 less 30 by frost", x.morning(6, 0), 1);
        x = told("b41 1 5;");
        due("14: 41 less 40 in 40", x.morning(40, 0), 0);
        x = new WarmBottles();
        due("14: no bottles, no pints", x.morning(40, -1), 0);
        due("14: no bottle 0", x.morning(1, 0), BAD);
    }

    private static void promise15() {
        WarmBottles x = new WarmBottles();
        due("15: no bottles", x.kept(0), NONE);
        due("15: nobody", x.kept(1), NONE);
        due("15: BAD is ahead", x.kept(2), BAD);
        x = told("b99 1 1;b99 1 1;");
        due("15: 4 at most", x.kept(0), 4);
        due("15: the lowest", x.kept(1), 0);
        due("15: no 2", x.kept(2), BAD);
        due("15: no -1", x.kept(-1), BAD);
        x = told("b99 1 1;b3 3 1;p3;");
        due("15: 3 less 3 can be put off for ever", x.kept(0), 4);
        due("15: by the second only", x.kept(1), 1);
        x = told("b99 1 1;b3 3 1;p3;k2;");
        due("15: two pints", x.kept(0), 2);
        x = told("b9 1 1;b3 3 1;k0;");
        due("15: none to fill with", x.kept(0), 0);
        due("15: 0 hours: with none", x.kept(1), NONE);
        x = told("b4 3 1;b9 3 1;k0;");
        due("15: an hour by itself", x.kept(0), 1);
        due("15: with nobody", x.kept(1), 6);
        x = told("b1 1 1;b1 1 1;");
        due("15: one of two a time", x.kept(0), 0);
        x = told("b0 1 1;b2 1 1;");
        due("15: a cold one is filled", x.kept(0), 4);
        due("15: first", x.kept(1), 0);
        x = told("b98 9 1;k1;p30;");
        x.frosts(9);
        due("15: 98 less 18 an hour, by itself", x.kept(0), 4);
        // 20 less 18: it lasts an hour by itself, two by the one pint, now or an hour later.
        x = told("b99 9 1;b60 9 1;b20 9 1;k1;p30;");
        x.frosts(9);
        due("15: 20 has the pint", x.kept(0), 2);
        due("15: if the others had it, 20 wouldn't last", x.kept(1), 2);
        promise15Pints();
    }

    private static void promise15Pints() {
        WarmBottles x = told("b99 9 1;b50 9 1;k1;p30;");
        x.frosts(9);
        due("15: 80 less 72", x.kept(0), 4);
        due("15: not the first bottle", x.kept(1), 1);
        due("15: the kettle isn't changed", x.now(2), 1);
        due("15: no bottle is warmer", x.bottle(1, 0), 50);
        due("15: no hour goes by", x.now(0), 0);
        due("15: nothing to undo but the frost", x.now(5), 1);
        x = told("b99 1 1;b4 3 1;k1;p2;");
        due("15: 4 and 2 less 6", x.kept(0), 1);
        due("15: with whom is all the same", x.kept(1), 0);
        x = told("b99 1 1;b4 3 1;k1;p3;");
        due("15: 4 and 3 less 6", x.kept(0), 2);
        due("15: the second has to have it", x.kept(1), 1);
        x = told("b95 9 1;k60;p30;");
        x.frosts(9);
        due("15: filled or not", x.kept(0), 4);
        due("15: the lowest", x.kept(1), 0);
        // Together each of them loses 3 less 2.
        x = told("b3 3 1;b3 3 1;k0;");
        due("15: each in its own bed", x.kept(0), 0);
        x.lays(0, 1);
        due("15: both in one", x.kept(0), 2);
    }

    private static void promise16() {
        WarmBottles x = new WarmBottles();
        due("16: no bottles", x.beds(-1), NONE);
        due("16: no bottle 0", x.beds(0), BAD);
        x = told("b20 3 1;b20 3 1;");
        due("16: two together, 1 an hour", x.beds(-1), 20);
        due("16: bottle 0", x.beds(0), 0);
        due("16: bottle 1", x.beds(1), 0);
        due("16: no bottle 2", x.beds(2), BAD);
        due("16: no bottle -2", x.beds(-2), BAD);
        due("16: nothing is changed", x.bottle(1, 3), 1);
        x = told("b6 1 1;b12 3 1;b12 3 1;");
        due("16: 6 hours at most", x.beds(-1), 6);
        due("16: all together is the first", x.beds(0) + x.beds(1) + x.beds(2), 0);
        x = told("b0 1 1;b12 3 1;b12 3 1;");
        due("16: a cold one: 0", x.beds(-1), 0);
        due("16: the first way", x.beds(1) + x.beds(2), 0);
        x = told("b20 3 1;");
        due("16: one by itself", x.beds(-1), 7);
        due("16: in bed 0", x.beds(0), 0);
        x = told("b40 5 1;b40 5 1;b40 5 1;");
        x.frosts(1);
        due("16: 6 less 4 an hour", x.beds(-1), 20);
        x = told("b9 9 1;b9 9 1;b9 9 1;b9 9 1;b9 9 1;b9 9 1;");
        x.frosts(9);
        x.lays(5, 0);
        due("16: 18 less 10 an hour", x.beds(-1), 2);
        x = told("b50 9 1;b5 1 1;b30 7 1;b20 5 1;b9 2 1;b60 8 1;");
        due("16: 5 hours by the second", x.beds(-1), 5);
        for (int b = 0; b < 6; b++) {
            due("16: bed of " + b, x.beds(b), 0);
        }
    }

    private static void promise17() {
        WarmBottles x = told("b10 3 1;b0 1 1;");
        odds(x, 0, 5, 0, 1, 1);
        odds(x, 1, 5, 0, 0, 1);
        odds(x, 1, 0, 8, 0, 1);
        odds(x, 0, 0, 3, 1, 1);
        odds(x, 0, 0, 4, 0, 1);
        odds(x, 0, 10, 1, 1, 1);
        odds(x, 0, 10, 2, 0, 1);
        odds(x, 0, 3, 1, 1, 1);
        // 3 and 3 or 3 and 8: not above 0 by one frost.
        odds(x, 0, 3, 2, 49, 100);
        odds(x, 0, 5, 2, 1, 4);
        odds(x, 0, 5, 3, 1, 8);
        odds(x, 0, 4, 2, 9, 25);
        x = told("b99 1 1;");
        odds(x, 0, 1, 8, 1, 1);
        x = told("b48 1 1;");
        // 8 hours, all of frost: 48.
        odds(x, 0, 1, 8, 99999999, 100000000);
        odds(x, 0, 10, 8, 0, 1);
        x = told("b14 3 1;b9 9 1;");
        x.frosts(9);
        // 12 an hour or 17; with the other beside it 10 or 15: FROST goes beyond 9 there.
        odds(x, 0, 2, 1, 4, 5);
        x.lays(0, 1);
        odds(x, 0, 2, 1, 4, 5);
        odds(x, 0, 2, 2, 0, 1);
        due("17: x 11", x.odds(0, 11, 1, 0), BAD);
        due("17: x -1", x.odds(0, -1, 1, 0), BAD);
        due("17: n 9", x.odds(0, 1, 9, 0), BAD);
        due("17: n -1", x.odds(0, 1, -1, 0), BAD);
        due("17: what 2", x.odds(0, 1, 1, 2), BAD);
        due("17: what -1", x.odds(0, 1, 1, -1), BAD);
        due("17: no bottle 2", x.odds(2, 1, 1, 0), BAD);
        due("17: no bottle -1", x.odds(-1, 1, 1, 0), BAD);
        x = told("b3 1 1;b9 1 1;b9 1 1;b9 1 1;");
        x.lays(1, 0);
        x.lays(2, 0);
        x.lays(3, 0);
        // 1 or 6, less 6, but 1 at least: no frost is felt.
        odds(x, 0, 10, 2, 1, 1);
    }

    private static void odds(WarmBottles x, int b, int of10, int n, int upper, int lower) {
        String call = "17: odds(" + b + ", " + of10 + ", " + n + ", ";
        due(call + "0)", x.odds(b, of10, n, 0), upper);
        due(call + "1)", x.odds(b, of10, n, 1), lower);
    }

    private static void promise18() {
        WarmBottles x = told("b10 3 5;");
        due("18: one", x.hears(0, 0), 1);
        due("18: the same once more", x.hears(0, 0), 2);
        due("18: h 10", x.hears(10, 0), BAD);
        due("18: h -1", x.hears(-1, 0), BAD);
        due("18: sound 3", x.hears(0, 3), BAD);
        due("18: sound -1", x.hears(0, -1), BAD);
        due("18: three", x.hears(9, 2), 3);
        due("18: four", x.hears(1, 1), 4);
        due("18: five", x.hears(1, 2), 5);
        due("18: six", x.hears(2, 0), 6);
        due("18: full", x.hears(2, 0), FULL);
        due("18: BAD is ahead of FULL", x.hears(10, 0), BAD);
        due("18: six are heard", x.count(3), 6);
        due("18: nothing to undo", x.now(5), 0);
        due("18: without bottles, too", new WarmBottles().hears(0, 0), 1);
    }

    private static void promise19() {
        WarmBottles x = told("b10 3 5;");
        due("19: nothing", x.forget(), 0);
        x.hears(0, 0);
        x.hears(1, 0);
        due("19: nobody", x.who(), 0);
        due("19: two", x.forget(), 2);
        due("19: nothing again", x.forget(), 0);
        due("19: anybody", x.who(), 1);
        due("19: heard anew", x.hears(0, 2), 1);
    }

    private static void promise20() {
        due("20: no bottles", new WarmBottles().who(), 0);
        // Behind 0, 1, 2, 3 hours: 10 7 4 1; 10 8 6 4; 3 2 1 0.
        WarmBottles x = told("b10 3 5;b10 2 5;b3 1 9;");
        due("20: nothing heard: anybody", x.who(), 7);
        x.hears(0, 2);
        due("20: clear now", x.who(), 3);
        x.hears(2, 1);
        due("20: low in two", x.who(), 1);
        x.hears(3, 0);
        due("20: none in three", x.who(), 0);
        x.forget();
        x.hears(3, 0);
        due("20: by itself", x.who(), 4);
        x.forget();
        x.hears(1, 2);
        x.hears(2, 2);
        due("20: clear in one and in two", x.who(), 2);
        x.forget();
        x.hears(1, 1);
        due("20: low in one", x.who(), 4);
        x.hour();
        due("20: from the hour of asking", x.who(), 5);
        x.undo();
        x.frosts(9);
        due("20: in frost", x.who(), 0);
        x.forget();
        x.hears(9, 0);
        due("20: behind nine", x.who(), 7);
        due("20: nothing is changed", x.bottle(0, 0), 10);
    }

    private static void promise21() {
        due("21: no bottles", new WarmBottles().listen(), NONE);
        due("21: one", told("b10 3 5;").listen(), NONE);
        // Behind 0, 1, 2, 3 hours: 10 7 4 1; 10 8 6 4; 3 2 1 0.
        WarmBottles x = told("b10 3 5;b10 2 5;b3 1 9;");
        // The sounds: 2 2 1, 2 2 1, 1 2 1, 1 1 0, ..: there are always two of one.
        due("21: two of one sound, at once", x.listen(), 0);
        x.hears(0, 2);
        due("21: two are left, told apart in two", x.listen(), 2);
        x.hears(2, 2);
        due("21: one is left", x.listen(), NONE);
        x.hears(2, 1);
        due("21: none is left", x.listen(), NONE);
        x = told("b10 1 99;b10 1 99;");
        due("21: never told apart: the lowest", x.listen(), 0);
        x = told("b20 1 1;b10 1 1;");
        due("21: told apart in ten only", x.listen(), 0);
        x = told("b9 1 0;b9 1 0;b9 1 0;b9 1 0;b9 1 0;b2 1 0;");
        due("21: five are less than six", x.listen(), 2);
        x = told("b20 1 1;b9 1 1;");
        due("21: told apart in nine", x.listen(), 9);
        x.hour();
        due("21: an hour later", x.listen(), 8);
        // The sounds: 2 2 1 2 at once, 1 2 0 2 in an hour.
        x = told("b9 1 9;b9 1 8;b1 1 5;b9 1 7;");
        due("21: three of one sound, then two", x.listen(), 1);
    }

    private static void promise22() {
        WarmBottles x = told("b20 3 5;b7 9 50;k4;");
        int[] first = {20, 25, 17, 50, 17, 24};
        int[] second = {7, 57, -2, 114, -1, 11};
        for (int kind = 0; kind <= 5; kind++) {
            due("22: rate(" + kind + ", 0)", x.rate(kind, 0), first[kind]);
            due("22: rate(" + kind + ", 1)", x.rate(kind, 1), second[kind]);
        }
        x.fills(0, 3);
        due("22: what the kettle has", x.rate(5, 0), 51);
        due("22: no kind 6", x.rate(6, 0), NO);
        due("22: no kind -1", x.rate(-1, 0), NO);
        due("22: no bottle 2", x.rate(0, 2), NO);
        due("22: no bottle -1", x.rate(0, -1), NO);
        due("22: no bottle", new WarmBottles().rate(0, 0), NO);
    }

    private static void promise23() {
        WarmBottles x = told("b20 3 5;");
        due("23: hour 0", x.keep(0), 0);
        x.hour();
        x.hour();
        due("23: hour 2", x.keep(1), 2);
        due("23: no image 2", x.keep(2), BAD);
        due("23: no image -1", x.keep(-1), BAD);
        due("23: nothing is lost", x.now(5), 2);
        due("23: image 0 is as it was", x.back(0), 0);
        due("23: image 1, too", x.back(1), 2);
        x.hour();
        due("23: kept anew", x.keep(0), 3);
        x.hour();
        due("23: the later one", x.back(0), 3);
        due("23: without bottles, too", new WarmBottles().keep(1), 0);
    }

    private static void promise24() {
        WarmBottles x = told("b20 3 5;b30 4 5;k8;p5;");
        due("24: none was kept", x.back(0), STATE);
        x.hour();
        x.frosts(2);
        x.fills(0, 1);
        x.lays(0, 1);
        x.keep(1);
        x.hears(0, 2);
        due("24: the other one wasn't", x.back(0), STATE);
        due("24: refused, nothing is lost", x.now(5), 4);
        x.spills(1);
        x.hour();
        x.frosts(7);
        x.fills(0, 1);
        x.lays(0, 0);
        x.rate(0, 0);
        x.hears(0, 1);
        type(x, "zz");
        due("24: the hour of the image", x.back(1), 1);
        due("24: the hour", x.now(0), 1);
        due("24: the frost", x.now(1), 2);
        due("24: the kettle", x.now(2), 7);
        due("24: warm 0", x.bottle(0, 0), 22);
        due("24: warm 1", x.bottle(1, 0), 26);
        due("24: the bed", x.bottle(0, 3), 1);
        due("24: nothing can be undone", x.undo(), STATE);
        due("24: what was heard stays", x.count(3), 2);
        due("24: the text stays", x.count(4), 2);
        due("24: the trace goes on", x.trace(), 1);
        x.hour();
        due("24: undone from there", x.undo(), 0);
        due("24: as the image has it", x.bottle(1, 0), 26);
        x.spills(0);
        due("24: the image stays", x.back(1), 1);
        due("24: warm again", x.bottle(0, 0), 22);
        due("24: no image 2", x.back(2), BAD);
        due("24: no image -1", x.back(-1), BAD);
    }

    private static void promise25() {
        WarmBottles x = told("b20 3 5;b30 4 5;k8;p5;");
        x.fills(0, 3);
        x.hears(0, 0);
        x.hears(0, 0);
        x.hears(0, 0);
        type(x, "four");
        due("25: bottles", x.count(0), 2);
        due("25: kettle as told", x.count(1), 8);
        due("25: pint", x.count(2), 5);
        due("25: heard", x.count(3), 3);
        due("25: letters", x.count(4), 4);
        due("25: no 5", x.count(5), BAD);
        due("25: no -1", x.count(-1), BAD);
        due("25: no far", x.count(FAR_BELOW), BAD);
    }

    private static void promise26() {
        WarmBottles x = told("b20 3 5;");
        int[] more = {1, 11, 101, 1011, 10101, 100001};
        long sum = 0;
        due("26: at first", x.trace(), 0);
        for (int kind = 0; kind <= 5; kind++) {
            x.rate(kind, 0);
            sum += more[kind];
            due("26: behind kind " + kind, x.trace(), sum);
        }
        x.rate(6, 0);
        x.rate(0, 1);
        due("26: what is refused adds nothing", x.trace(), sum);
        x.bottle(0, 0);
        x.now(3);
        x.kept(0);
        x.hour();
        x.undo();
        x.keep(0);
        x.back(0);
        due("26: behind undo() and back()", x.trace(), sum);
        type(x, "b1 1 1;");
        x.ward();
        due("26: read anew, it goes on", x.trace(), sum);
        x.rate(0, 0);
        due("26: and on", x.trace(), sum + 1);
        due("26: each object its own", new WarmBottles().trace(), 0);
    }

    /** All places are taken: nothing looks for a seventh bottle. */
    private static void sixBottles() {
        WarmBottles x = told("b9 1 1;b9 1 1;b9 1 1;b9 1 1;b9 1 1;b9 3 1;");
        due("six: above 0", x.now(4), 6);
        due("six: all", x.now(3), 3);
        due("six: hour", x.hour(), 6);
        due("six: lays", x.lays(5, 4), 5);
        due("six: the last cools by 1 now", x.bottle(5, 5), 6);
        due("six: undo", x.undo(), 1);
        due("six: pints", x.morning(8, -1), 5 + 2);
        due("six: kept", x.kept(0), 4);
        due("six: first", x.kept(1), 0);
        due("six: beds", x.beds(-1), 6);
        due("six: bed of the last", x.beds(5), 0);
        due("six: odds", x.odds(5, 5, 1, 0) * 10 + x.odds(5, 5, 1, 1), 12);
        due("six: who", x.who(), 63);
        due("six: listen", x.listen(), 2);
        due("six: keep", x.keep(1), 1);
        due("six: spills", x.spills(5), 6);
        due("six: back", x.back(1), 1);
        due("six: rate", x.rate(4, 5), 6 - 3 + 5);
        due("six: no seventh", x.bottle(6, 0), BAD);
    }
}

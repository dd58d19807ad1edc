import java.util.function.Supplier;

/** Wards for tests, and all that can be found out of one. */
final class Wards {
    static final int BAD = -1, STATE = -2, FULL = -3, NONE = -9, NO = -1000000;
    static final int FAR = Integer.MAX_VALUE;
    static final int FAR_BELOW = Integer.MIN_VALUE;
    static final String SIX = "b90 3 10;b80 4 70;b70 5 71;b60 6 60;b50 7 1;b40 8 99;";

    private Wards() {
    }

    static void type(WarmBottles x, String text) {
        for (int i = 0; i < text.length(); i++) {
            x.type(text.charAt(i));
        }
    }

    static WarmBottles told(String text) {
        WarmBottles x = new WarmBottles();
        type(x, text);
        Check.isTrue("ward() reads " + text, x.ward() >= 0);
        return x;
    }

    static Supplier<WarmBottles> of(String text) {
        return () -> told(text);
    }

    /** Four bottles, and nothing is as at first: hour, frost, kettle, beds, images, heard, trace, text. */
    static WarmBottles busy() {
        WarmBottles x = told("k9;p7;b40 5 20;b33 4 50;b21 3 21;b2 9 1;");
        x.hour();
        x.keep(1);
        x.fills(0, 2);
        x.lays(1, 2);
        x.frosts(2);
        x.hears(2, 1);
        x.rate(4, 2);
        type(x, "p3; b7 2");
        return x;
    }

    /** All is full: six bottles, each in another's bed, ten to undo, both images, six heard, 120 letters. */
    static WarmBottles crowded() {
        WarmBottles x = told("k3;p5;b30 3 10;b20 2 30;b9 1 5;b15 4 15;b1 1 1;b50 5 49;");
        x.hour();
        x.hour();
        x.keep(0);
        int[] beds = {1, 2, 0, 5, 0, 3};
        for (int b = 0; b < beds.length; b++) {
            x.lays(b, beds[b]);
        }
        x.frosts(1);
        x.fills(5, 2);
        x.keep(1);
        x.hour();
        x.spills(2);
        for (int heard = 0; heard < 6; heard++) {
            x.hears(heard, heard < 3 ? 2 : 1);
        }
        x.rate(5, 5);
        type(x, " ".repeat(113) + "p4;b7 2");
        return x;
    }

    static WarmBottles busyWithText(String text) {
        WarmBottles x = busy();
        x.clear();
        type(x, text);
        return x;
    }

    static WarmBottles afterHours(String text, int hours) {
        WarmBottles x = told(text);
        for (int hour = 0; hour < hours; hour++) {
            x.hour();
        }
        return x;
    }

    /** All that a ward tells without being changed; some hundred calls. */
    static String seen(WarmBottles x) {
        StringBuilder all = new StringBuilder();
        for (int what = 0; what <= 4; what++) {
            all.append(x.count(what)).append(' ');
        }
        for (int what = 0; what <= 5; what++) {
            all.append(x.now(what)).append(' ');
        }
        for (int b = 0; b <= 5; b++) {
            for (int what = 0; what <= 5; what++) {
                all.append(x.bottle(b, what)).append(' ');
            }
            all.append(x.morning(3, b)).append(' ').append(x.morning(12, b)).append(' ');
            all.append(x.odds(b, 3, 4, 0)).append('/').append(x.odds(b, 3, 4, 1)).append(' ');
        }
        all.append(x.morning(6, -1)).append(' ').append(x.beds(-1)).append(' ');
        all.append(x.kept(0)).append(' ').append(x.kept(1)).append(' ');
        all.append(x.who()).append(' ').append(x.listen()).append(' ').append(x.trace());
        return all.append('\n').toString();
    }

    /** All that can be found out of wards that are made alike, each used for one way of finding out. */
    static String everything(Supplier<WarmBottles> made) {
        StringBuilder all = new StringBuilder(seen(made.get()));
        for (int undone = 1; undone <= 11; undone++) {
            WarmBottles x = made.get();
            for (int i = 0; i < undone; i++) {
                all.append(x.undo()).append(' ');
            }
            all.append(seen(x));
        }
        for (int image = 0; image <= 1; image++) {
            WarmBottles x = made.get();
            all.append(x.back(image)).append(' ').append(seen(x));
        }
        for (String ending : new String[] {"", ";", " 1;", " 1 1;"}) {
            WarmBottles x = made.get();
            type(x, ending);
            all.append(x.ward()).append(' ').append(seen(x));
        }
        WarmBottles x = made.get();
        for (int hour = 0; hour < 10; hour++) {
            all.append(x.hour()).append(' ').append(x.who()).append(' ').append(x.listen()).append(' ');
        }
        return all.toString();
    }
}

import java.util.Random;

/** Many runs of calls, each answer compared with PlainWard's. The seeds are fixed. */
public final class FuzzTest {
    private static final int RUNS = 1500;
    private static final int CALLS = 512;

    private final Random random;
    private final int run;
    private final WarmBottles ward = new WarmBottles();
    private final PlainWard plain = new PlainWard();
    private int calls = 0;

    private FuzzTest(int run) {
        this.run = run;
        this.random = new Random(run);
    }

    public static void main(String[] args) {
        for (int run = 0; run < RUNS && Check.wrong() == 0; run++) {
            new FuzzTest(run).go();
        }
        Check.end("FuzzTest");
    }

    private void go() {
        while (calls < CALLS) {
            int pick = random.nextInt(100);
            if (calls == 0 || pick < 2) {
                tell(random.nextInt(4) == 0 ? spoilt(wardText()) : wardText());
            } else if (pick < 45) {
                act();
            } else if (pick < 90) {
                ask();
            } else {
                other();
            }
        }
    }

    private void due(String call, long got, long want) {
        calls++;
        Check.due("run " + run + ", call " + calls + ": " + call, got, want);
    }

    private void tell(String text) {
        for (int i = 0; i < text.length(); i++) {
            type(text.charAt(i));
        }
        due("ward()", ward.ward(), plain.ward());
        if (random.nextInt(2) == 0) {
            due("clear()", ward.clear(), plain.clear());
        }
        for (int what = 0; what < 5; what++) {
            due("count(" + what + ")", ward.count(what), plain.count(what));
        }
    }

    private void type(int letter) {
        due("type(" + letter + ")", ward.type(letter), plain.type(letter));
    }

    private String wardText() {
        StringBuilder text = new StringBuilder();
        int bottles = random.nextInt(5) == 0 ? random.nextInt(8) : 2 + random.nextInt(5);
        int kettleAt = random.nextInt(10);
        int pintAt = random.nextInt(10);
        int style = random.nextInt(3);
        for (int i = 0; i <= bottles; i++) {
            if (i == kettleAt) {
                text.append('k').append(blanks(0)).append(random.nextInt(random.nextBoolean() ? 4 : 61))
                        .append(blanks(0)).append(';').append(blanks(0));
            }
            if (i == pintAt) {
                text.append('p').append(blanks(0)).append(1 + random.nextInt(30)).append(blanks(0))
                        .append(';');
            }
            if (i < bottles) {
                int warm = style == 0 ? 90 + random.nextInt(10) : random.nextInt(style == 1 ? 100 : 25);
                text.append('b').append(blanks(0)).append(warm).append(blanks(1))
                        .append(1 + random.nextInt(9)).append(blanks(1)).append(random.nextInt(100))
                        .append(blanks(0)).append(';');
            }
        }
        return text.toString();
    }

    private String blanks(int least) {
        int number = random.nextInt(6) == 0 ? least + random.nextInt(3) : least;
        return " ".repeat(number);
    }

    private String spoilt(String text) {
        StringBuilder all = new StringBuilder(text);
        String letters = "bkp;0123456789 xB\t\n-";
        for (int times = random.nextInt(3); times >= 0 && all.length() > 0; times--) {
            int at = random.nextInt(all.length());
            char letter = random.nextInt(8) == 0 ? (char) random.nextInt(256)
                    : letters.charAt(random.nextInt(letters.length()));
            int how = random.nextInt(4);
            if (how == 0) {
                all.setCharAt(at, letter);
            } else if (how == 1) {
                all.insert(at, letter);
            } else if (how == 2) {
                all.deleteCharAt(at);
            } else {
                all.setLength(at);
            }
        }
        return all.toString();
    }

    /** A number that is mostly as told, at times just outside, and now and then far off. */
    private int some(int least, int most) {
        int pick = random.nextInt(60);
        if (pick == 0) return least - 1;
        if (pick == 1) return most + 1;
        if (pick == 2) return random.nextInt();
        if (pick == 3) return random.nextBoolean() ? Integer.MIN_VALUE : Integer.MAX_VALUE;
        return least + random.nextInt(most - least + 1);
    }

    private int someBottle() {
        return some(0, Math.max(0, plain.count(0) - 1));
    }

    private void act() {
        int b = someBottle();
        switch (random.nextInt(9)) {
            case 0, 1 -> due("hour()", ward.hour(), plain.hour());
            case 2, 3 -> {
                int n = some(1, random.nextBoolean() ? 9 : 2);
                due("fills(" + b + ", " + n + ")", ward.fills(b, n), plain.fills(b, n));
            }
            case 4 -> {
                int bed = someBottle();
                due("lays(" + b + ", " + bed + ")", ward.lays(b, bed), plain.lays(b, bed));
            }
            case 5 -> due("spills(" + b + ")", ward.spills(b), plain.spills(b));
            case 6 -> {
                int n = some(0, 9);
                due("frosts(" + n + ")", ward.frosts(n), plain.frosts(n));
            }
            case 7 -> due("boils()", ward.boils(), plain.boils());
            default -> {
                for (int times = random.nextInt(12); times >= 0; times--) {
                    due("undo()", ward.undo(), plain.undo());
                }
            }
        }
    }

    private void ask() {
        int b = someBottle();
        switch (random.nextInt(9)) {
            case 0 -> {
                int what = some(0, 5);
                due("bottle(" + b + ", " + what + ")", ward.bottle(b, what), plain.bottle(b, what));
            }
            case 1 -> {
                int what = some(0, 5);
                due("now(" + what + ")", ward.now(what), plain.now(what));
            }
            case 2 -> {
                int n = some(1, random.nextBoolean() ? 40 : 8);
                int of = some(-1, Math.max(0, plain.count(0) - 1));
                due("morning(" + n + ", " + of + ")", ward.morning(n, of), plain.morning(n, of));
            }
            case 3 -> {
                int what = some(0, 1);
                due("kept(" + what + ")", ward.kept(what), plain.kept(what));
            }
            case 4 -> {
                int of = some(-1, Math.max(0, plain.count(0) - 1));
                due("beds(" + of + ")", ward.beds(of), plain.beds(of));
            }
            case 5 -> {
                int x = some(0, 10);
                int n = some(0, 8);
                int what = some(0, 1);
                due("odds(" + b + ", " + x + ", " + n + ", " + what + ")",
                        ward.odds(b, x, n, what), plain.odds(b, x, n, what));
            }
            case 6 -> due("who()", ward.who(), plain.who());
            case 7 -> due("listen()", ward.listen(), plain.listen());
            default -> {
                int what = some(0, 4);
                due("count(" + what + ")", ward.count(what), plain.count(what));
            }
        }
    }

    private void other() {
        int b = someBottle();
        switch (random.nextInt(8)) {
            case 0, 1 -> {
                int h = some(0, 9);
                int sound = some(0, 2);
                due("hears(" + h + ", " + sound + ")", ward.hears(h, sound), plain.hears(h, sound));
            }
            case 2 -> due("forget()", ward.forget(), plain.forget());
            case 3 -> {
                int kind = some(0, 5);
                due("rate(" + kind + ", " + b + ")", ward.rate(kind, b), plain.rate(kind, b));
            }
            case 4 -> due("trace()", ward.trace(), plain.trace());
            case 5 -> {
                int image = some(0, 1);
                due("keep(" + image + ")", ward.keep(image), plain.keep(image));
            }
            case 6 -> {
                int image = some(0, 1);
                due("back(" + image + ")", ward.back(image), plain.back(image));
            }
            default -> type(some(0, 255));
        }
    }
}

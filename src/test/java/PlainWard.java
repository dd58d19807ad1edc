import java.math.BigInteger;
import java.util.ArrayDeque;
import java.util.ArrayList;
import java.util.Arrays;
import java.util.Deque;
import java.util.List;
import java.util.regex.Matcher;
import java.util.regex.Pattern;

/**
 * The document once more, written another way and as slowly as it likes: hours are let pass one by
 * one on copies, and every way is written out. FuzzTest compares WarmBottles with it.
 */
final class PlainWard {
    private static final int BAD = -1, STATE = -2, FULL = -3, NONE = -9, NO = -1000000;

    /** What UNDO and IMAGES bring back. */
    private static final class Now {
        int hour;
        int frost;
        int kettle = 10;
        int[] warm = {};
        int[] bed = {};

        Now copy() {
            Now other = new Now();
            other.hour = hour;
            other.frost = frost;
            other.kettle = kettle;
            other.warm = warm.clone();
            other.bed = bed.clone();
            return other;
        }
    }

    private String text = "";
    private List<int[]> told = new ArrayList<>();
    private int kettleTold = 10;
    private int pint = 10;
    private Now now = new Now();
    private final Deque<Now> past = new ArrayDeque<>();
    private final Now[] images = new Now[2];
    private final List<int[]> heard = new ArrayList<>();
    private long trace = 0;

    private boolean no(int b) {
        return b < 0 || b >= told.size();
    }

    int type(int letter) {
        if (letter < 0 || letter > 255) return BAD;
        if (text.length() == 120) return FULL;
        text += (char) letter;
        return text.length();
    }

    int clear() {
        int had = text.length();
        text = "";
        return had;
    }

    int ward() {
        List<int[]> bottles = new ArrayList<>();
        int kettle = -1;
        int pints = -1;
        int items = 0;
        List<Integer> numbers = new ArrayList<>();
        char item = 0;
        Matcher tokens = Pattern.compile("[0-9]+|[^ ]", Pattern.DOTALL).matcher(text);
        while (tokens.find()) {
            String token = tokens.group();
            int fault = -10 - tokens.start();
            boolean digits = token.charAt(0) >= '0' && token.charAt(0) <= '9';
            if (item == 0) {
                if (!"bkp".contains(token)) return fault;
                item = token.charAt(0);
                if (item == 'b' && bottles.size() == 6) return fault;
                if (item == 'k' && kettle >= 0 || item == 'p' && pints >= 0) return fault;
            } else if (numbers.size() == (item == 'b' ? 3 : 1)) {
                if (!token.equals(";")) return fault;
                if (item == 'b') {
                    bottles.add(new int[] {numbers.get(0), numbers.get(1), numbers.get(2)});
                } else if (item == 'k') {
                    kettle = numbers.get(0);
                } else {
                    pints = numbers.get(0);
                }
                numbers.clear();
                item = 0;
                items++;
            } else {
                if (!digits || token.length() > 2) return fault;
                if (token.length() == 2 && token.charAt(0) == '0') return fault;
                int number = Integer.parseInt(token);
                int most = item == 'k' ? 60 : item == 'p' ? 30 : numbers.size() == 1 ? 9 : 99;
                int least = item == 'p' || item == 'b' && numbers.size() == 1 ? 1 : 0;
                if (number < least || number > most) return fault;
                numbers.add(number);
            }
        }
        if (item != 0) return -10 - text.length();
        told = bottles;
        kettleTold = kettle < 0 ? 10 : kettle;
        pint = pints < 0 ? 10 : pints;
        now = new Now();
        now.kettle = kettleTold;
        now.warm = bottles.stream().mapToInt(b -> b[0]).toArray();
        now.bed = new int[bottles.size()];
        for (int b = 0; b < now.bed.length; b++) now.bed[b] = b;
        past.clear();
        heard.clear();
        Arrays.fill(images, null);
        text = "";
        return items;
    }

    private int loss(Now then, int b) {
        int loss = told.get(b)[1] + then.frost;
        for (int other = 0; other < told.size(); other++) {
            if (other != b && then.bed[other] == then.bed[b]) loss -= 2;
        }
        return loss < 1 ? 1 : loss;
    }

    private void pass(Now then) {
        int[] next = then.warm.clone();
        for (int b = 0; b < next.length; b++) {
            next[b] -= loss(then, b);
            if (next[b] < 0) next[b] = 0;
        }
        then.warm = next;
    }

    private Now behind(int hours) {
        Now then = now.copy();
        for (int h = 0; h < hours; h++) pass(then);
        return then;
    }

    private static int lastsFrom(PlainWard ward, Now from, int b) {
        Now then = from.copy();
        int hours = 0;
        while (then.warm[b] > 0) {
            ward.pass(then);
            hours++;
        }
        return hours;
    }

    private int allFrom(Now from) {
        if (told.isEmpty()) return NONE;
        int least = 1000;
        for (int b = 0; b < told.size(); b++) least = Math.min(least, lastsFrom(this, from, b));
        return least;
    }

    private int sound(Now then, int b) {
        if (then.warm[b] == 0) return 0;
        return then.warm[b] >= told.get(b)[2] ? 2 : 1;
    }

    int bottle(int b, int what) {
        if (no(b)) return BAD;
        if (what == 0) return now.warm[b];
        if (what == 1) return told.get(b)[1];
        if (what == 2) return told.get(b)[2];
        if (what == 3) return now.bed[b];
        if (what == 4) return sound(now, b);
        if (what == 5) return lastsFrom(this, now, b);
        return BAD;
    }

    private int above(Now then) {
        return (int) Arrays.stream(then.warm).filter(w -> w > 0).count();
    }

    int now(int what) {
        if (what == 0) return now.hour;
        if (what == 1) return now.frost;
        if (what == 2) return now.kettle;
        if (what == 3) return allFrom(now);
        if (what == 4) return above(now);
        if (what == 5) return past.size();
        return BAD;
    }

    private void remember() {
        past.addLast(now.copy());
        if (past.size() > 10) past.removeFirst();
    }

    int hour() {
        if (now.hour == 999) return STATE;
        remember();
        pass(now);
        now.hour++;
        return above(now);
    }

    int fills(int b, int n) {
        if (no(b) || n < 1 || n > 9) return BAD;
        if (n > now.kettle) return STATE;
        remember();
        for (int i = 0; i < n; i++) now.warm[b] = Math.min(99, now.warm[b] + pint);
        now.kettle -= n;
        return now.warm[b];
    }

    int lays(int b, int bed) {
        if (no(b) || no(bed)) return BAD;
        if (now.bed[b] == bed) return STATE;
        remember();
        int was = now.bed[b];
        now.bed[b] = bed;
        return was;
    }

    int spills(int b) {
        if (no(b)) return BAD;
        if (now.warm[b] == 0) return STATE;
        remember();
        int was = now.warm[b];
        now.warm[b] = 0;
        return was;
    }

    int frosts(int n) {
        if (n < 0 || n > 9) return BAD;
        if (now.frost == n) return STATE;
        remember();
        int was = now.frost;
        now.frost = n;
        return was;
    }

    int boils() {
        if (now.kettle == kettleTold) return STATE;
        remember();
        int was = now.kettle;
        now.kettle = kettleTold;
        return was;
    }

    int undo() {
        if (past.isEmpty()) return STATE;
        now = past.removeLast();
        return past.size();
    }

    int morning(int n, int b) {
        if (n < 1 || n > 40 || b < -1 || b >= told.size()) return BAD;
        if (b >= 0) return fewest(n, b);
        int sum = 0;
        for (int each = 0; each < told.size(); each++) {
            int pints = fewest(n, each);
            if (pints == NONE) return NONE;
            sum += pints;
        }
        return sum;
    }

    private int fewest(int n, int b) {
        for (int pints = 0; pints < 10; pints++) {
            Now then = now.copy();
            then.warm[b] = Math.min(99, then.warm[b] + pints * pint);
            for (int h = 0; h < n; h++) pass(then);
            if (then.warm[b] > 0) return pints;
        }
        return NONE;
    }

    int kept(int what) {
        if (what < 0 || what > 1) return BAD;
        if (told.isEmpty()) return NONE;
        int nobody = told.size();
        int[] mostByFirst = new int[nobody + 1];
        int[] way = new int[4];
        int ways = (nobody + 1) * (nobody + 1) * (nobody + 1) * (nobody + 1);
        for (int code = 0; code < ways; code++) {
            int rest = code;
            for (int i = 0; i < 4; i++) {
                way[i] = rest % (nobody + 1);
                rest /= nobody + 1;
            }
            mostByFirst[way[0]] = Math.max(mostByFirst[way[0]], hoursBy(way, nobody));
        }
        int most = Arrays.stream(mostByFirst).max().getAsInt();
        if (what == 0) return most;
        if (most == 0) return NONE;
        for (int b = 0; b < nobody; b++) {
            if (mostByFirst[b] == most) return b;
        }
        return 6;
    }

    private int hoursBy(int[] way, int nobody) {
        Now then = now.copy();
        for (int h = 0; h < way.length; h++) {
            if (way[h] < nobody) {
                if (then.kettle == 0) return h;
                then.kettle--;
                then.warm[way[h]] = Math.min(99, then.warm[way[h]] + pint);
            }
            pass(then);
            if (above(then) < nobody) return h;
        }
        return way.length;
    }

    int beds(int b) {
        if (b < -1 || b >= told.size()) return BAD;
        if (told.isEmpty()) return NONE;
        int[] best = null;
        int greatest = -1;
        int[] factors = {1, 2, 3, 4, 5, 6};
        int ways = 1;
        for (int i = 0; i < told.size(); i++) ways *= factors[i];
        // Counted so that the last bottle's bed goes up fastest: the first of several comes first.
        for (int code = 0; code < ways; code++) {
            Now then = now.copy();
            int rest = code;
            for (int i = told.size() - 1; i >= 0; i--) {
                then.bed[i] = rest % factors[i];
                rest /= factors[i];
            }
            if (!bedsComeInOrder(then.bed)) continue;
            int all = allFrom(then);
            if (all > greatest) {
                greatest = all;
                best = then.bed;
            }
        }
        return b == -1 ? greatest : best[b];
    }

    private static boolean bedsComeInOrder(int[] bed) {
        int next = 0;
        for (int one : bed) {
            if (one > next) return false;
            if (one == next) next++;
        }
        return true;
    }

    int odds(int b, int x, int n, int what) {
        if (no(b) || x < 0 || x > 10 || n < 0 || n > 8 || what < 0 || what > 1) return BAD;
        BigInteger upper = BigInteger.ZERO;
        for (int frosty = 0; frosty < 1 << n; frosty++) {
            Now then = now.copy();
            BigInteger weight = BigInteger.ONE;
            for (int h = 0; h < n; h++) {
                boolean hard = (frosty >> h & 1) == 1;
                then.frost = now.frost + (hard ? 5 : 0);
                pass(then);
                weight = weight.multiply(BigInteger.valueOf(hard ? x : 10 - x));
            }
            if (then.warm[b] > 0) upper = upper.add(weight);
        }
        BigInteger lower = BigInteger.TEN.pow(n);
        BigInteger common = upper.gcd(lower);
        return (what == 0 ? upper : lower).divide(common).intValueExact();
    }

    int hears(int h, int sound) {
        if (h < 0 || h > 9 || sound < 0 || sound > 2) return BAD;
        if (heard.size() == 6) return FULL;
        heard.add(new int[] {h, sound});
        return heard.size();
    }

    int forget() {
        int was = heard.size();
        heard.clear();
        return was;
    }

    private List<Integer> suspects() {
        List<Integer> all = new ArrayList<>();
        for (int b = 0; b < told.size(); b++) {
            int each = b;
            if (heard.stream().allMatch(one -> sound(behind(one[0]), each) == one[1])) all.add(b);
        }
        return all;
    }

    int who() {
        int bits = 0;
        for (int b : suspects()) bits += 1 << b;
        return bits;
    }

    int listen() {
        List<Integer> all = suspects();
        if (all.size() < 2) return NONE;
        int best = -1;
        int least = 7;
        for (int h = 0; h < 10; h++) {
            int[] by = new int[3];
            Now then = behind(h);
            for (int b : all) by[sound(then, b)]++;
            int most = Math.max(by[0], Math.max(by[1], by[2]));
            if (most < least) {
                least = most;
                best = h;
            }
        }
        return best;
    }

    int rate(int kind, int b) {
        if (kind < 0 || kind > 5 || no(b)) return NO;
        int warm = now.warm[b];
        int cools = told.get(b)[1];
        int speaks = told.get(b)[2];
        int[] rates = {warm, warm + speaks, warm - cools, 2 * (warm + speaks), warm - cools + b,
            warm + now.kettle};
        int[] traces = {1, 11, 101, 1011, 10101, 100001};
        trace += traces[kind];
        return rates[kind];
    }

    int keep(int image) {
        if (image < 0 || image > 1) return BAD;
        images[image] = now.copy();
        return now.hour;
    }

    int back(int image) {
        if (image < 0 || image > 1) return BAD;
        if (images[image] == null) return STATE;
        now = images[image].copy();
        past.clear();
        return now.hour;
    }

    int count(int what) {
        if (what == 0) return told.size();
        if (what == 1) return kettleTold;
        if (what == 2) return pint;
        if (what == 3) return heard.size();
        if (what == 4) return text.length();
        return BAD;
    }

    long trace() {
        return trace;
    }
}

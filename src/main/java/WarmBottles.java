/**
 * A ward of beds in an old sailors' home that have only hot water bottles in them: how warm they
 * are, how they cool hour by hour, the kettle that fills them, and all that can be asked of them.
 */
public final class WarmBottles {
    public static final int BAD = -1, STATE = -2, FULL = -3, NONE = -9;
    public static final int NO = -1000000;

    private static final int MOST_LETTERS = 120;
    private static final int MOST_BOTTLES = 6;
    private static final int MOST_WARM = 99;
    private static final int MOST_COOLS = 9;
    private static final int MOST_KETTLE = 60;
    private static final int MOST_PINT = 30;
    private static final int AT_FIRST = 10;
    private static final int LAST_HOUR = 999;
    private static final int MOST_FROST = 9;
    private static final int MOST_PINTS = 9;
    private static final int MOST_UNDONE = 10;
    private static final int LONGEST = 99;
    private static final int LATEST_MORNING = 40;
    private static final int MOST_KEPT = 4;
    private static final int NOBODY = 6;
    private static final int MOST_HEARD = 6;
    private static final int LATEST_HEARD = 9;
    private static final int SILENT = 0, LOW = 1, CLEAR = 2;
    private static final int MORE_FROST = 5;
    private static final int TENTHS = 10;
    private static final int MOST_ODDS_HOURS = 8;
    private static final int IMAGES = 2;
    private static final int[] ONE_BED = {0, 0, 0, 0, 0, 0};
    private static final int FAULT_AT_0 = -10;

    private final Text text;
    private final Told draft;
    private final Night night;
    private final Past past;
    private final Copies images;
    private final boolean[] imageKept;
    private final Heard heard;
    private final Keeping keeping;
    private long trace;

    public WarmBottles() {
        text = new Text();
        draft = new Told();
        night = new Night();
        past = new Past();
        images = new Copies(IMAGES);
        imageKept = new boolean[IMAGES];
        heard = new Heard();
        keeping = new Keeping();
    }

    // ---- the ward

    public int type(int letter) {
        if (letter < 0 || letter > 255) {
            return BAD;
        }
        if (text.length >= MOST_LETTERS) {
            return FULL;
        }
        text.append((char) letter);
        return text.length;
    }

    public int clear() {
        int had = text.length;
        text.length = 0;
        return had;
    }

    public int ward() {
        int items = text.read(draft);
        if (items < 0) {
            return items;
        }
        night.told.become(draft);
        night.begin();
        past.known = 0;
        heard.number = 0;
        for (int image = 0; image < imageKept.length; image++) {
            imageKept[image] = false;
        }
        text.length = 0;
        return items;
    }

    public int bottle(int b, int what) {
        if (!night.has(b)) {
            return BAD;
        }
        switch (what) {
            case 0:
                return night.warm[b];
            case 1:
                return night.told.cools[b];
            case 2:
                return night.told.speaks[b];
            case 3:
                return night.bed[b];
            case 4:
                return night.soundIn(b, 0);
            case 5:
                return night.lasts(b, night.bed);
            default:
                return BAD;
        }
    }

    public int now(int what) {
        switch (what) {
            case 0:
                return night.hour;
            case 1:
                return night.frost;
            case 2:
                return night.kettle;
            case 3:
                return night.told.bottles > 0 ? night.allLast(night.bed) : NONE;
            case 4:
                return night.numberWarm();
            case 5:
                return past.known;
            default:
                return BAD;
        }
    }

    // ---- what is done

    public int hour() {
        if (night.hour >= LAST_HOUR) {
            return STATE;
        }
        past.remember(night);
        night.letHourPass();
        return night.numberWarm();
    }

    public int fills(int b, int n) {
        if (!night.has(b) || n < 1 || n > MOST_PINTS) {
            return BAD;
        }
        if (night.kettle < n) {
            return STATE;
        }
        past.remember(night);
        night.kettle -= n;
        night.warm[b] = night.warmBy(night.warm[b], n);
        return night.warm[b];
    }

    public int lays(int b, int bed) {
        if (!night.has(b) || !night.has(bed)) {
            return BAD;
        }
        int till = night.bed[b];
        if (till == bed) {
            return STATE;
        }
        past.remember(night);
        night.bed[b] = bed;
        return till;
    }

    public int spills(int b) {
        if (!night.has(b)) {
            return BAD;
        }
        int was = night.warm[b];
        if (was == 0) {
            return STATE;
        }
        past.remember(night);
        night.warm[b] = 0;
        return was;
    }

    public int frosts(int n) {
        if (n < 0 || n > MOST_FROST) {
            return BAD;
        }
        int till = night.frost;
        if (till == n) {
            return STATE;
        }
        past.remember(night);
        night.frost = n;
        return till;
    }

    public int boils() {
        int had = night.kettle;
        if (had == night.told.kettle) {
            return STATE;
        }
        past.remember(night);
        night.kettle = night.told.kettle;
        return had;
    }

    public int undo() {
        if (past.known < 1) {
            return STATE;
        }
        past.takeLatest(night);
        return past.known;
    }

    // ---- till morning

    public int morning(int n, int b) {
        if (n < 1 || n > LATEST_MORNING || (b != -1 && !night.has(b))) {
            return BAD;
        }
        return b == -1 ? night.pintsOfAll(n) : night.pintsOf(b, n);
    }

    public int kept(int what) {
        if (what != 0 && what != 1) {
            return BAD;
        }
        if (night.told.bottles == 0) {
            return NONE;
        }
        return what == 0 ? keeping.mostHours(night) : keeping.first(night);
    }

    public int beds(int b) {
        if (b != -1 && !night.has(b)) {
            return BAD;
        }
        if (night.told.bottles == 0) {
            return NONE;
        }
        // Each other one in a bed only slows the cooling there, so no way to lay them is better
        // than all together in bed 0, and of the ways that are as good it is the first.
        return b == -1 ? night.allLast(ONE_BED) : 0;
    }

    public int odds(int b, int x, int n, int what) {
        if (!night.has(b) || x < 0 || x > TENTHS || n < 0 || n > MOST_ODDS_HOURS) {
            return BAD;
        }
        if (what != 0 && what != 1) {
            return BAD;
        }
        int upper = night.waysStillWarm(b, x, n);
        int lower = 1;
        for (int hours = 0; hours < n; hours++) {
            lower *= TENTHS;
        }
        int asked = what == 0 ? upper : lower;
        int common = commonDivisor(upper, lower);
        return common > 0 ? asked / common : asked;
    }

    private static int commonDivisor(int a, int b) {
        int divisor = a;
        int rest = b;
        // Euclid's way takes some forty steps at most for any two ints.
        for (int step = 0; step < 64 && rest != 0; step++) {
            int next = divisor % rest;
            divisor = rest;
            rest = next;
        }
        return divisor;
    }

    // ---- who it is

    public int hears(int h, int sound) {
        if (h < 0 || h > LATEST_HEARD || sound < SILENT || sound > CLEAR) {
            return BAD;
        }
        if (heard.number >= MOST_HEARD) {
            return FULL;
        }
        heard.add(h, sound);
        return heard.number;
    }

    public int forget() {
        int was = heard.number;
        heard.number = 0;
        return was;
    }

    public int who() {
        return heard.whoFits(night);
    }

    public int listen() {
        int suspects = heard.whoFits(night);
        if (Integer.bitCount(suspects) <= 1) {
            return NONE;
        }
        int best = 0;
        int least = night.mostOfOneSound(suspects, 0);
        for (int h = 1; h <= LATEST_HEARD; h++) {
            int most = night.mostOfOneSound(suspects, h);
            if (most < least) {
                least = most;
                best = h;
            }
        }
        return best;
    }

    // ---- kinds, images

    public int rate(int kind, int b) {
        if (!night.has(b)) {
            return NO;
        }
        switch (kind) {
            case 0:
                return asBottle(b);
            case 1:
                return asBosun(b);
            case 2:
                return asCook(b);
            case 3:
                return asMate(b);
            case 4:
                return asStoker(b);
            case 5:
                return asMatron(b);
            default:
                return NO;
        }
    }

    private int asBottle(int b) {
        trace += 1;
        return night.warm[b];
    }

    private int asBosun(int b) {
        trace += 10;
        return asBottle(b) + night.told.speaks[b];
    }

    private int asCook(int b) {
        trace += 100;
        return asBottle(b) - night.told.cools[b];
    }

    private int asMate(int b) {
        trace += 1000;
        return 2 * asBosun(b);
    }

    private int asStoker(int b) {
        trace += 10000;
        return asCook(b) + b;
    }

    private int asMatron(int b) {
        trace += 100000;
        return asBottle(b) + night.kettle;
    }

    public int keep(int image) {
        if (image < 0 || image >= imageKept.length) {
            return BAD;
        }
        images.put(image, night);
        imageKept[image] = true;
        return night.hour;
    }

    public int back(int image) {
        if (image < 0 || image >= imageKept.length) {
            return BAD;
        }
        if (!imageKept[image]) {
            return STATE;
        }
        images.take(image, night);
        past.known = 0;
        return night.hour;
    }

    public int count(int what) {
        switch (what) {
            case 0:
                return night.told.bottles;
            case 1:
                return night.told.kettle;
            case 2:
                return night.told.pint;
            case 3:
                return heard.number;
            case 4:
                return text.length;
            default:
                return BAD;
        }
    }

    public long trace() {
        return trace;
    }

    /** What a text tells. */
    private static final class Told {
        final int[] warm = new int[MOST_BOTTLES];
        final int[] cools = new int[MOST_BOTTLES];
        final int[] speaks = new int[MOST_BOTTLES];
        int bottles;
        int kettle;
        int pint;

        Told() {
            beAsAtFirst();
        }

        void beAsAtFirst() {
            bottles = 0;
            kettle = AT_FIRST;
            pint = AT_FIRST;
        }

        void become(Told other) {
            bottles = other.bottles;
            kettle = other.kettle;
            pint = other.pint;
            System.arraycopy(other.warm, 0, warm, 0, MOST_BOTTLES);
            System.arraycopy(other.cools, 0, cools, 0, MOST_BOTTLES);
            System.arraycopy(other.speaks, 0, speaks, 0, MOST_BOTTLES);
        }
    }

    /** The text, told letter by letter, and how it is read. */
    private static final class Text {
        // Tokens that are no letter; every other token is its letter's number, which is 0 or more.
        private static final int END = -1, NUMBER = -2, WRONG_NUMBER = -3;

        private final char[] letters = new char[MOST_LETTERS];
        int length;
        private int place;
        private int start;
        private int token;
        private int value;
        private boolean kettleTold;
        private boolean pintTold;

        void append(char letter) {
            if (length < letters.length) {
                letters[length] = letter;
                length++;
            }
        }

        /** Reads it all into told: how many items, or -10 less the fault's place. */
        int read(Told told) {
            told.beAsAtFirst();
            place = 0;
            kettleTold = false;
            pintTold = false;
            // Each item takes some letters, so the end or a fault comes within as many rounds.
            for (int items = 0; items <= length; items++) {
                readToken();
                if (token == END) {
                    return items;
                }
                if (!readItem(told)) {
                    break;
                }
            }
            return FAULT_AT_0 - start;
        }

        // Whatever answers false below has just read the token at fault: start is its place.

        private boolean readItem(Told told) {
            switch (token) {
                case 'b':
                    return readBottle(told) && readSemicolon();
                case 'k':
                    return readKettle(told) && readSemicolon();
                case 'p':
                    return readPint(told) && readSemicolon();
                default:
                    return false;
            }
        }

        private boolean readBottle(Told told) {
            int b = told.bottles;
            if (b >= MOST_BOTTLES || !readNumber(0, MOST_WARM)) {
                return false;
            }
            told.warm[b] = value;
            if (!readNumber(1, MOST_COOLS)) {
                return false;
            }
            told.cools[b] = value;
            if (!readNumber(0, MOST_WARM)) {
                return false;
            }
            told.speaks[b] = value;
            told.bottles = b + 1;
            return true;
        }

        private boolean readKettle(Told told) {
            if (kettleTold || !readNumber(0, MOST_KETTLE)) {
                return false;
            }
            kettleTold = true;
            told.kettle = value;
            return true;
        }

        private boolean readPint(Told told) {
            if (pintTold || !readNumber(1, MOST_PINT)) {
                return false;
            }
            pintTold = true;
            told.pint = value;
            return true;
        }

        private boolean readNumber(int least, int most) {
            readToken();
            return token == NUMBER && value >= least && value <= most;
        }

        private boolean readSemicolon() {
            readToken();
            return token == ';';
        }

        private void readToken() {
            while (place < length && letters[place] == ' ') {
                place++;
            }
            start = place;
            if (place >= length) {
                token = END;
            } else if (isDigit(letters[place])) {
                readDigits();
            } else {
                token = letters[place];
                place++;
            }
        }

        private void readDigits() {
            value = 0;
            while (place < length && isDigit(letters[place])) {
                // Held at 100: that is beyond what any number may be, and doesn't wrap around.
                value = Math.min(100, value * 10 + (letters[place] - '0'));
                place++;
            }
            boolean zeroAhead = letters[start] == '0' && place > start + 1;
            token = zeroAhead ? WRONG_NUMBER : NUMBER;
        }

        private static boolean isDigit(char letter) {
            return letter >= '0' && letter <= '9';
        }
    }

    /** How things are now, and what follows from it for the hours to come. */
    private static final class Night {
        final Told told = new Told();
        final int[] warm = new int[MOST_BOTTLES];
        final int[] bed = new int[MOST_BOTTLES];
        int hour;
        int frost;
        int kettle;

        Night() {
            begin();
        }

        void begin() {
            hour = 0;
            frost = 0;
            kettle = told.kettle;
            for (int b = 0; b < MOST_BOTTLES; b++) {
                warm[b] = told.warm[b];
                bed[b] = b;
            }
        }

        boolean has(int b) {
            return b >= 0 && b < told.bottles;
        }

        int numberWarm() {
            int number = 0;
            for (int b = 0; b < told.bottles; b++) {
                if (warm[b] > 0) {
                    number++;
                }
            }
            return number;
        }

        void letHourPass() {
            hour++;
            for (int b = 0; b < told.bottles; b++) {
                warm[b] = Math.max(0, warm[b] - loss(b, bed, frost));
            }
        }

        /** How warm a bottle of some warmth is by so many pints. */
        int warmBy(int warmth, int pints) {
            return Math.min(MOST_WARM, warmth + pints * told.pint);
        }

        /** What a bottle loses in an hour, if all lie as beds says. */
        int loss(int b, int[] beds, int frostThen) {
            int loss = told.cools[b] + frostThen;
            for (int other = 0; other < told.bottles; other++) {
                if (other != b && beds[other] == beds[b]) {
                    loss -= 2;
                }
            }
            return Math.max(1, loss);
        }

        int lasts(int b, int[] beds) {
            int loss = loss(b, beds, frost);
            return loss > 0 ? (warm[b] + loss - 1) / loss : LONGEST;
        }

        int allLast(int[] beds) {
            int least = LONGEST;
            for (int b = 0; b < told.bottles; b++) {
                least = Math.min(least, lasts(b, beds));
            }
            return least;
        }

        int soundIn(int b, int hours) {
            int then = warm[b] - hours * loss(b, bed, frost);
            if (then <= 0) {
                return SILENT;
            }
            return then >= told.speaks[b] ? CLEAR : LOW;
        }

        /** Of some bottles (bits), how many have the sound that most of them have. */
        int mostOfOneSound(int bottles, int hours) {
            int most = 0;
            for (int sound = SILENT; sound <= CLEAR; sound++) {
                int number = 0;
                for (int b = 0; b < told.bottles; b++) {
                    if ((bottles >> b & 1) == 1 && soundIn(b, hours) == sound) {
                        number++;
                    }
                }
                most = Math.max(most, number);
            }
            return most;
        }

        int pintsOf(int b, int hours) {
            int lost = hours * loss(b, bed, frost);
            for (int pints = 0; pints <= MOST_PINTS; pints++) {
                if (warmBy(warm[b], pints) > lost) {
                    return pints;
                }
            }
            return NONE;
        }

        int pintsOfAll(int hours) {
            int sum = 0;
            for (int b = 0; b < told.bottles; b++) {
                int pints = pintsOf(b, hours);
                if (pints == NONE) {
                    return NONE;
                }
                sum += pints;
            }
            return sum;
        }

        /** In how many of ten to the power of hours equal cases a bottle is still warm. */
        int waysStillWarm(int b, int x, int hours) {
            int mild = loss(b, bed, frost);
            int hard = loss(b, bed, frost + MORE_FROST);
            return waysFrom(warm[b], hours, x, mild, hard);
        }

        private static int waysFrom(int warmth, int hours, int x, int mild, int hard) {
            if (warmth <= 0) {
                return 0;
            }
            if (hours <= 0) {
                return 1;
            }
            return (TENTHS - x) * waysFrom(warmth - mild, hours - 1, x, mild, hard)
                    + x * waysFrom(warmth - hard, hours - 1, x, mild, hard);
        }
    }

    /** Copies of what can change in a night, each in a slot. */
    private static final class Copies {
        private static final int WARM_AT = 3;
        private static final int BED_AT = WARM_AT + MOST_BOTTLES;
        private static final int SLOT = BED_AT + MOST_BOTTLES;

        private final int slots;
        private final int[] cells;

        Copies(int slots) {
            this.slots = Math.max(0, slots);
            cells = new int[this.slots * SLOT];
        }

        void put(int slot, Night night) {
            if (slot < 0 || slot >= slots) {
                return;
            }
            int at = slot * SLOT;
            cells[at] = night.hour;
            cells[at + 1] = night.frost;
            cells[at + 2] = night.kettle;
            System.arraycopy(night.warm, 0, cells, at + WARM_AT, MOST_BOTTLES);
            System.arraycopy(night.bed, 0, cells, at + BED_AT, MOST_BOTTLES);
        }

        void take(int slot, Night night) {
            if (slot < 0 || slot >= slots) {
                return;
            }
            int at = slot * SLOT;
            night.hour = cells[at];
            night.frost = cells[at + 1];
            night.kettle = cells[at + 2];
            System.arraycopy(cells, at + WARM_AT, night.warm, 0, MOST_BOTTLES);
            System.arraycopy(cells, at + BED_AT, night.bed, 0, MOST_BOTTLES);
        }
    }

    /** What can be undone: a ring, in which the latest overwrites the oldest. */
    private static final class Past {
        private final Copies copies = new Copies(MOST_UNDONE);
        private int next;
        int known;

        void remember(Night night) {
            copies.put(next, night);
            next = next + 1 < MOST_UNDONE ? next + 1 : 0;
            known = Math.min(MOST_UNDONE, known + 1);
        }

        void takeLatest(Night night) {
            next = next > 0 ? next - 1 : MOST_UNDONE - 1;
            copies.take(next, night);
            known--;
        }
    }

    /** What was heard of an unknown bottle. */
    private static final class Heard {
        private final int[] hours = new int[MOST_HEARD];
        private final int[] sounds = new int[MOST_HEARD];
        int number;

        void add(int h, int sound) {
            if (number < MOST_HEARD) {
                hours[number] = h;
                sounds[number] = sound;
                number++;
            }
        }

        /** The bottles, as bits, by whom all of it is so. */
        int whoFits(Night night) {
            int bits = 0;
            for (int b = 0; b < night.told.bottles; b++) {
                if (fits(night, b)) {
                    bits |= 1 << b;
                }
            }
            return bits;
        }

        private boolean fits(Night night, int b) {
            for (int i = 0; i < number && i < MOST_HEARD; i++) {
                if (night.soundIn(b, hours[i]) != sounds[i]) {
                    return false;
                }
            }
            return true;
        }
    }

    /** For how many hours all can be kept warm by one pint an hour: every way is tried. */
    private static final class Keeping {
        private final int[] loss = new int[MOST_BOTTLES];
        // How warm each bottle is behind 0, 1, .. hours of the way that is being tried.
        private final int[] warm = new int[(MOST_KEPT + 1) * MOST_BOTTLES];

        int mostHours(Night night) {
            lookAt(night);
            return mostFrom(night, 0, night.kettle);
        }

        int first(Night night) {
            int most = mostHours(night);
            if (most == 0) {
                return NONE;
            }
            for (int b = 0; b < night.told.bottles; b++) {
                if (mostByFilling(night, b, 0, night.kettle) == most) {
                    return b;
                }
            }
            return NOBODY;
        }

        private void lookAt(Night night) {
            for (int b = 0; b < night.told.bottles; b++) {
                loss[b] = night.loss(b, night.bed, night.frost);
                warm[b] = night.warm[b];
            }
        }

        private int mostFrom(Night night, int gone, int kettle) {
            if (gone >= MOST_KEPT) {
                return MOST_KEPT;
            }
            int most = mostByFilling(night, NOBODY, gone, kettle);
            for (int b = 0; b < night.told.bottles && most < MOST_KEPT; b++) {
                most = Math.max(most, mostByFilling(night, b, gone, kettle));
            }
            return most;
        }

        private int mostByFilling(Night night, int whom, int gone, int kettle) {
            int pints = whom == NOBODY ? 0 : 1;
            if (kettle < pints || !staysWarmByFilling(night, whom, gone)) {
                return gone;
            }
            return mostFrom(night, gone + 1, kettle - pints);
        }

        /** Lets the hour behind gone others pass: whether all are above 0 then. */
        private boolean staysWarmByFilling(Night night, int whom, int gone) {
            if (gone < 0 || gone >= MOST_KEPT) {
                return false;
            }
            int at = gone * MOST_BOTTLES;
            for (int b = 0; b < night.told.bottles; b++) {
                int then = night.warmBy(warm[at + b], b == whom ? 1 : 0) - loss[b];
                if (then <= 0) {
                    return false;
                }
                warm[at + MOST_BOTTLES + b] = then;
            }
            return true;
        }
    }
}

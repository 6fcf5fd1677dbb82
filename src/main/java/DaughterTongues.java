import java.util.Arrays;

/**
 * From one mouth to many: sound laws and what they make of words, in daughter tongues and over a land.
 *
 * <p>The public methods ask the findings of the document in its order and leave the work to the classes inside. Inside,
 * a WORD is always a row of bits (see {@link Rows}); numbers of WORDS stand only at the face.
 */
public final class DaughterTongues {

    private static final int BEYOND = -1000001;
    private static final int FULL = -1000002;
    private static final int KIND = -1000003;
    private static final int NONE = -1000004;
    private static final int STATE = -1000005;
    private static final int MISSING = -1000006;
    private static final int SIZE = -1000007;
    private static final int WRONG = -1000100;

    private static final int SOUNDS = 6;
    private static final int VOWELS_AT_FIRST = 17;
    private static final int YEARS = 1000;
    private static final int MOST_LAWS = 24;
    private static final int MOST_TONGUES = 8;
    private static final int MOST_OWN_LAWS = 6;
    private static final int MOST_MATCHES = 10;
    private static final int MOST_FINDS = 60;
    private static final int MOST_PAIRS = 6;
    private static final int MOST_WAVES = 8;
    private static final int MOST_LISTED = 12;
    private static final int MOST_NUMBERS = 12;
    private static final int MOST_BYTES = 40;
    private static final int LAND_PLACES = 8;
    private static final int SHEETS = 4;
    private static final int STEM_SOUNDS = 5;
    private static final int STEMS = 9330;

    private final Tape tape;
    private final Law[] laws;
    private final Family family;
    private final Finds finds;
    private final Pairs pairs;
    private final Land land;
    private final Sheet[] sheets;
    private int lawCount;
    private int vowels;
    private int findings;

    public DaughterTongues() {
        tape = new Tape();
        laws = new Law[MOST_LAWS];
        family = new Family();
        finds = new Finds();
        pairs = new Pairs();
        land = new Land();
        sheets = new Sheet[SHEETS];
        for (int s = 0; s < SHEETS; s++) {
            sheets[s] = new Sheet();
        }
        vowels = VOWELS_AT_FIRST;
    }

    // ---- sounds and laws

    public int vowel(int sound, boolean is) {
        if (sound < 0 || sound >= SOUNDS) {
            return finding(BEYOND);
        }
        int bit = 1 << sound;
        boolean was = (vowels & bit) != 0;
        if (was != is) {
            vowels ^= bit;
            heedVowels();
        }
        return was ? 1 : 0;
    }

    public int feed(long w, int n) {
        if (n < 1 || n > 8) {
            return finding(BEYOND);
        }
        if (tape.length + n > MOST_BYTES) {
            return finding(FULL);
        }
        tape.append(w, n);
        return tape.length;
    }

    public int law() {
        int wrong = tape.parse();
        tape.length = 0;
        if (wrong >= 0) {
            return finding(WRONG - wrong);
        }
        if (lawCount >= MOST_LAWS) {
            return finding(FULL);
        }
        laws[lawCount] = new Law(lawCount, tape.facts, vowels);
        lawCount++;
        return lawCount - 1;
    }

    public int as(int law, int kind) {
        if (noLaw(law) || kind < Law.PLAIN || kind > Law.TWIN) {
            return finding(BEYOND);
        }
        int is = laws[law].facts[Law.KIND_OF];
        boolean isUnder = kind == Law.PLAIN || kind == Law.SPLIT && is == Law.TWIN;
        return kind == is || isUnder ? law : finding(KIND);
    }

    public int about(int law, int what) {
        if (noLaw(law) || what < 0 || what >= Law.FACTS) {
            return finding(BEYOND);
        }
        return laws[law].facts[what];
    }

    public int run(int law, int word) {
        int row = Rows.rowOf(word);
        if (noLaw(law) || row == Rows.NO_ROW) {
            return finding(BEYOND);
        }
        return Rows.numberOf(laws[law].change.over(row));
    }

    public int holds(int law, int word) {
        int row = Rows.rowOf(word);
        if (noLaw(law) || row == Rows.NO_ROW) {
            return finding(BEYOND);
        }
        return Rows.bitsOf(laws[law].change.fieldsOf(row));
    }

    // ---- tongues

    public int tongue(int above) {
        if (above != -1 && noTongue(above)) {
            return finding(BEYOND);
        }
        if (family.count >= MOST_TONGUES) {
            return finding(FULL);
        }
        return family.addUnder(above);
    }

    public int take(int tongue, int law) {
        if (noTongue(tongue) || noLaw(law)) {
            return finding(BEYOND);
        }
        Tongue taker = family.tongues[tongue];
        if (taker.count >= MOST_OWN_LAWS) {
            return finding(FULL);
        }
        taker.own[taker.count] = laws[law];
        taker.count++;
        family.ageBelow(tongue);
        return taker.count;
    }

    public int leave(int tongue) {
        if (noTongue(tongue)) {
            return finding(BEYOND);
        }
        Tongue leaver = family.tongues[tongue];
        if (leaver.count == 0) {
            return finding(NONE);
        }
        leaver.count--;
        family.ageBelow(tongue);
        return leaver.count;
    }

    public int swap(int tongue, int i) {
        if (noNeighbours(tongue, i)) {
            return finding(BEYOND);
        }
        Tongue swapper = family.tongues[tongue];
        swapper.exchange(i);
        family.ageBelow(tongue);
        return swapper.own[i].number != swapper.own[i + 1].number ? 1 : 0;
    }

    public int own(int tongue, int i) {
        if (noTongue(tongue) || i < 0 || i >= family.tongues[tongue].count) {
            return finding(BEYOND);
        }
        return family.tongues[tongue].own[i].number;
    }

    public int form(int tongue, int word) {
        int row = Rows.rowOf(word);
        if (tongue != -1 && noTongue(tongue) || row == Rows.NO_ROW) {
            return finding(BEYOND);
        }
        return tongue == -1 ? word : Rows.numberOf(family.rowIn(tongue, row));
    }

    public int order(int tongue, int i) {
        if (noNeighbours(tongue, i)) {
            return finding(BEYOND);
        }
        int least = family.leastSwayed(tongue, i);
        return least == Rows.NO_ROW ? finding(NONE) : Rows.numberOf(least);
    }

    public int script(int tongue, int sound, int sign) {
        if (noTongue(tongue) || sound < 0 || sound >= SOUNDS || sign < -1 || sign >= SOUNDS) {
            return finding(BEYOND);
        }
        Tongue writer = family.tongues[tongue];
        int had = writer.signs[sound];
        writer.signs[sound] = sign;
        writer.isStale = true;
        return had;
    }

    public int written(int tongue, int word) {
        int row = Rows.rowOf(word);
        if (noTongue(tongue) || row == Rows.NO_ROW) {
            return finding(BEYOND);
        }
        return Rows.numberOf(Rows.signsOf(family.rowIn(tongue, row), family.tongues[tongue].signs));
    }

    public int back(int tongue, int number) {
        int row = Rows.rowOf(number);
        if (noTongue(tongue) || row == Rows.NO_ROW) {
            return finding(BEYOND);
        }
        family.wantIn(tongue, row);
        family.weigh();
        return family.countFitting();
    }

    public int stem(int tongue, int number, int i) {
        int row = Rows.rowOf(number);
        if (noTongue(tongue) || row == Rows.NO_ROW || i < 0) {
            return finding(BEYOND);
        }
        family.wantIn(tongue, row);
        family.weigh();
        int fitting = family.fittingAt(i);
        return fitting == Rows.NO_ROW ? finding(NONE) : Rows.numberOf(fitting);
    }

    // ---- matches

    public int match() {
        if (finds.matches >= MOST_MATCHES) {
            return finding(FULL);
        }
        finds.matches++;
        return finds.matches - 1;
    }

    public int find(int match, int tongue, int number, int year) {
        int row = Rows.rowOf(number);
        if (noMatch(match, year) || noTongue(tongue) || number != -1 && row == Rows.NO_ROW) {
            return finding(BEYOND);
        }
        if (year < finds.latestYear()) {
            return finding(STATE);
        }
        if (finds.count >= MOST_FINDS) {
            return finding(FULL);
        }
        return finds.enter(match, tongue, row, year);
    }

    public int known(int match, int tongue, int year) {
        if (noMatch(match, year) || noTongue(tongue)) {
            return finding(BEYOND);
        }
        finds.gather(match, year, family.wanted);
        int row = family.wanted[tongue];
        return row == Rows.NO_ROW ? finding(NONE) : Rows.numberOf(row);
    }

    public int mothers(int match, int year) {
        if (noMatch(match, year)) {
            return finding(BEYOND);
        }
        finds.gather(match, year, family.wanted);
        family.weigh();
        return family.countFitting();
    }

    public int mother(int match, int year, int i) {
        if (noMatch(match, year) || i < 0) {
            return finding(BEYOND);
        }
        finds.gather(match, year, family.wanted);
        family.weigh();
        int fitting = family.fittingAt(i);
        return fitting == Rows.NO_ROW ? finding(NONE) : Rows.numberOf(fitting);
    }

    public int doubt(int match, int year, int place) {
        if (noMatch(match, year) || place < 0 || place >= STEM_SOUNDS) {
            return finding(BEYOND);
        }
        finds.gather(match, year, family.wanted);
        family.weigh();
        return family.soundsAt(place);
    }

    public int best(int match, int year) {
        if (noMatch(match, year)) {
            return finding(BEYOND);
        }
        finds.gather(match, year, family.wanted);
        family.weigh();
        return Rows.numberOf(family.stems[family.bestFitting()]);
    }

    public int breakers(int match, int year) {
        if (noMatch(match, year)) {
            return finding(BEYOND);
        }
        finds.gather(match, year, family.wanted);
        family.weigh();
        return family.unfitFor(family.bestFitting());
    }

    public int lent(int match, int year, int tongue) {
        if (noMatch(match, year) || noTongue(tongue)) {
            return finding(BEYOND);
        }
        finds.gather(match, year, family.wanted);
        family.weigh();
        int best = family.bestFitting();
        if ((family.unfitFor(best) >>> tongue & 1) == 0) {
            return finding(STATE);
        }
        int lender = family.lenderOf(tongue, family.stems[best]);
        return lender == Family.NO_LENDER ? finding(NONE) : lender;
    }

    public int leans(int law, int year) {
        if (noLaw(law) || noYear(year)) {
            return finding(BEYOND);
        }
        return family.countLeaning(law, finds, year);
    }

    // ---- pairs

    public int pair(int from, int to) {
        int first = Rows.rowOf(from);
        int other = Rows.rowOf(to);
        if (first == Rows.NO_ROW || other == Rows.NO_ROW) {
            return finding(BEYOND);
        }
        if (pairs.count >= MOST_PAIRS) {
            return finding(FULL);
        }
        return pairs.join(first, other);
    }

    public int unpair() {
        int count = pairs.count;
        pairs.count = 0;
        pairs.isStale = true;
        return count;
    }

    public int fewest() {
        pairs.search(vowels);
        return pairs.laws == Pairs.NO_LAWS ? finding(NONE) : pairs.laws;
    }

    public int simple(int i, int what) {
        if (i < 0 || what < 0 || what >= Pairs.TRAITS) {
            return finding(BEYOND);
        }
        pairs.search(vowels);
        return i >= pairs.laws ? finding(NONE) : pairs.answer[i * Pairs.TRAITS + what];
    }

    public int proof(int i) {
        if (i < 0 || i >= pairs.count) {
            return finding(BEYOND);
        }
        pairs.search(vowels);
        return pairs.laws == Pairs.NO_LAWS ? finding(NONE) : Rows.numberOf(pairs.middleOf(i, vowels));
    }

    // ---- the land

    public int road(int a, int b, int years) {
        if (noPlace(a) || noPlace(b) || a == b || years < 0 || years > 9) {
            return finding(BEYOND);
        }
        return land.build(a, b, years);
    }

    public int shut(int place, int year) {
        if (noPlace(place) || year < 0 || year > Land.NEVER_SHUT) {
            return finding(BEYOND);
        }
        return land.close(place, year);
    }

    public int wave(int law, int place, int year) {
        if (noLaw(law) || noPlace(place) || noYear(year)) {
            return finding(BEYOND);
        }
        if (land.waves >= MOST_WAVES) {
            return finding(FULL);
        }
        return land.start(laws[law].change, place, year);
    }

    public int comes(int wave, int place) {
        if (wave < 0 || wave >= land.waves || noPlace(place)) {
            return finding(BEYOND);
        }
        land.spread();
        int year = land.arrivals[wave * LAND_PLACES + place];
        return year == Land.NEVER ? finding(NONE) : year;
    }

    public int speech(int place, int year, int word) {
        int row = Rows.rowOf(word);
        if (noPlace(place) || noYear(year) || row == Rows.NO_ROW) {
            return finding(BEYOND);
        }
        land.spread();
        return Rows.numberOf(land.spoken(place, year, row));
    }

    public int list(int word) {
        int row = Rows.rowOf(word);
        if (row == Rows.NO_ROW) {
            return finding(BEYOND);
        }
        if (land.listed >= MOST_LISTED) {
            return finding(FULL);
        }
        land.enlist(row);
        return land.listed;
    }

    public int speeches(int year) {
        if (noYear(year)) {
            return finding(BEYOND);
        }
        land.spread();
        return land.countSpeeches(year);
    }

    public int parted(int a, int b) {
        if (noPlace(a) || noPlace(b)) {
            return finding(BEYOND);
        }
        land.spread();
        int year = land.firstParting(a, b);
        return year == Land.NEVER ? finding(NONE) : year;
    }

    // ---- sheets

    public int sheet(int s, int bits, int n) {
        if (noSheet(s) || bits != 0 && bits != 8 && bits != 16 && bits != 32) {
            return finding(BEYOND);
        }
        if (n < 0) {
            return finding(SIZE);
        }
        if (n > MOST_NUMBERS) {
            return finding(BEYOND);
        }
        return sheets[s].renew(bits, n);
    }

    public int write(int s, int i, int v) {
        if (noSheet(s)) {
            return finding(BEYOND);
        }
        Sheet sheet = sheets[s];
        if (sheet.bits == 0) {
            return finding(MISSING);
        }
        if (i < 0 || i >= sheet.size) {
            return finding(BEYOND);
        }
        return sheet.put(i, v);
    }

    public int copy(int s, int from, int t, int to, int n) {
        if (noSheet(s) || noSheet(t)) {
            return finding(BEYOND);
        }
        Sheet source = sheets[s];
        Sheet target = sheets[t];
        if (source.bits == 0 || target.bits == 0) {
            return finding(MISSING);
        }
        if (source.bits != target.bits) {
            return finding(KIND);
        }
        if (!source.hasSpan(from, n) || !target.hasSpan(to, n)) {
            return finding(BEYOND);
        }
        System.arraycopy(source.numbers, from, target.numbers, to, n);
        return n;
    }

    public int read(int s) {
        if (noSheet(s)) {
            return finding(BEYOND);
        }
        Sheet sheet = sheets[s];
        if (sheet.bits == 0) {
            return finding(MISSING);
        }
        land.listed = 0;
        for (int i = 0; i < sheet.size; i++) {
            int row = Rows.rowOf(sheet.numbers[i]);
            if (row == Rows.NO_ROW) {
                break;
            }
            land.enlist(row);
        }
        return land.listed;
    }

    public int told(int what) {
        switch (what) {
            case 0:
                return lawCount;
            case 1:
                return family.count;
            case 2:
                return finds.matches;
            case 3:
                return finds.count;
            case 4:
                return pairs.count;
            case 5:
                return land.waves;
            case 6:
                return land.listed;
            case 7:
                return tape.length;
            case 8:
                return vowels;
            case 9:
                return findings;
            default:
                return finding(BEYOND);
        }
    }

    // ---- what the calls share

    private int finding(int answer) {
        findings++;
        return answer;
    }

    private void heedVowels() {
        for (int i = 0; i < lawCount; i++) {
            laws[i].tune(vowels);
        }
        family.ageAll();
        pairs.isStale = true;
    }

    private boolean noLaw(int law) {
        return law < 0 || law >= lawCount;
    }

    private boolean noTongue(int tongue) {
        return tongue < 0 || tongue >= family.count;
    }

    private boolean noNeighbours(int tongue, int i) {
        return noTongue(tongue) || i < 0 || i >= family.tongues[tongue].count - 1;
    }

    private boolean noMatch(int match, int year) {
        return match < 0 || match >= finds.matches || noYear(year);
    }

    private boolean noYear(int year) {
        return year < 0 || year >= YEARS;
    }

    private boolean noPlace(int place) {
        return place < 0 || place >= LAND_PLACES;
    }

    private boolean noSheet(int s) {
        return s < 0 || s >= SHEETS;
    }

    /**
     * WORDS as rows of eight fields of three bits, the first SOUND in the lowest field: SOUND + 1 in each, 0 behind the
     * last one. So what stands ahead of or behind all SOUNDS is the same row shifted by a field, with 0 for the ends,
     * and a LAW is asked at all SOUNDS at once: most of the time goes into LAWS over all STEMS.
     */
    private static final class Rows {

        /** Told for a number that tells no WORD, and where no WORD is. */
        static final int NO_ROW = -1;
        /** The lowest bit of each field. */
        static final int EACH = 0x249249;
        static final int MOST_SOUNDS = 8;
        static final int FIELD_BITS = 3;
        static final int ROW_BITS = MOST_SOUNDS * FIELD_BITS;
        /** All that a field can hold, as a set of digits. */
        static final int ALL_DIGITS = 127;
        static final int ALL_SOUNDS = 63;

        static int rowOf(int number) {
            int row = 0;
            int rest = number;
            for (int i = 0; i < MOST_SOUNDS && rest > 0; i++) {
                int digit = rest % 7;
                if (digit == 0) {
                    return NO_ROW;
                }
                row = row << FIELD_BITS | digit;
                rest /= 7;
            }
            return rest == 0 ? row : NO_ROW;
        }

        static int numberOf(int row) {
            int number = 0;
            for (int at = 0; at < ROW_BITS && row >>> at != 0; at += FIELD_BITS) {
                number = number * 7 + (row >>> at & 7);
            }
            return number;
        }

        static int lengthOf(int row) {
            int length = 0;
            while (length < MOST_SOUNDS && row >>> length * FIELD_BITS != 0) {
                length++;
            }
            return length;
        }

        /** The fields of a row whose digit is in a set, told by their lowest bits. */
        static int fieldsIn(int row, int digits) {
            if (digits == ALL_DIGITS) {
                return EACH;
            }
            int fields = 0;
            for (int digit = 0; digit <= SOUNDS && digits >>> digit != 0; digit++) {
                if ((digits >>> digit & 1) != 0) {
                    int unlike = row ^ digit * EACH;
                    fields |= ~(unlike | unlike >>> 1 | unlike >>> 2);
                }
            }
            return fields & EACH;
        }

        /** Fields as bits: bit 0 for the first one. */
        static int bitsOf(int fields) {
            int bits = 0;
            for (int i = 0; i < MOST_SOUNDS; i++) {
                bits |= (fields >>> i * FIELD_BITS & 1) << i;
            }
            return bits;
        }

        /** The SIGNS of the SOUNDS of a row, as a row. */
        static int signsOf(int row, int[] signs) {
            int result = 0;
            int at = 0;
            for (int i = 0; i < ROW_BITS && row >>> i != 0; i += FIELD_BITS) {
                int sign = signs[(row >>> i & 7) - 1];
                if (sign >= 0) {
                    result |= sign + 1 << at;
                    at += FIELD_BITS;
                }
            }
            return result;
        }

        /** What a MARK fits, as a set of digits. */
        static int digitsOf(int mark, int vowels) {
            switch (mark) {
                case Law.NO_MARK:
                    return ALL_DIGITS;
                case Law.VOWEL_MARK:
                    return vowels << 1;
                case Law.OTHER_MARK:
                    return (~vowels & ALL_SOUNDS) << 1;
                case Law.END_MARK:
                    return 1;
                default:
                    return 2 << mark;
            }
        }
    }

    /** The bytes that were fed, and the TEXT of a LAW that they are. */
    private static final class Tape {

        /** In the order of the numbers that about() has for MARKS. */
        static final String MARKS = "abcdefVC#";
        static final String FROMS = "abcdefVC";
        static final String LETTERS = "abcdef";

        final char[] bytes = new char[MOST_BYTES];
        /** What the TEXT that was parsed last tells, as about() has it. */
        final int[] facts = new int[Law.FACTS];
        int length;
        private int at;

        void append(long w, int n) {
            for (int i = 0; i < n; i++) {
                bytes[length + i] = (char) (w >>> 8 * i & 255);
            }
            length += n;
        }

        /** Reads all bytes as a LAW: -1, or the place of the first one that can't stand there. */
        int parse() {
            at = 0;
            int from = pass(FROMS);
            if (from < 0 || pass(">") < 0) {
                return at;
            }
            int to = pass(LETTERS) + 1;
            if (to == 0 && pass("-") < 0) {
                return at;
            }
            int second = to == 0 ? -1 : pass(LETTERS);
            facts[Law.FROM] = from;
            facts[Law.TO] = second < 0 ? to : 7 * to + second + 1;
            facts[Law.KIND_OF] = kindOf(from, to, second + 1);
            if (!passPlace("/", Law.HAS_PLACE, Law.AHEAD) || !passPlace("!", Law.HAS_BAR, Law.BAR_AHEAD)) {
                return at;
            }
            return at < length ? at : -1;
        }

        private static int kindOf(int from, int to, int second) {
            if (to == 0) {
                return Law.LOSS;
            }
            if (second == 0) {
                return Law.PLAIN;
            }
            return to == second && to == from + 1 ? Law.TWIN : Law.SPLIT;
        }

        /** Reads a PLACE behind a sign, if the sign is there: false if it is and no PLACE follows. */
        private boolean passPlace(String sign, int flag, int ahead) {
            facts[flag] = 0;
            facts[ahead] = Law.NO_MARK;
            facts[ahead + 1] = Law.NO_MARK;
            if (pass(sign) < 0) {
                return true;
            }
            facts[flag] = 1;
            facts[ahead] = pass(MARKS);
            if (pass("_") < 0) {
                return false;
            }
            facts[ahead + 1] = pass(MARKS);
            return true;
        }

        /** Which of some letters the next byte is, or -1; the byte is passed if it is one. */
        private int pass(String letters) {
            int found = at < length ? letters.indexOf(bytes[at]) : -1;
            if (found >= 0) {
                at++;
            }
            return found;
        }
    }

    /** What a LAW does with rows; held apart from LAWS since SIMPLE LAWS do it, too. */
    private static final class Change {

        /** Sets of digits that fit: as FROM, ahead and behind, and both of the PLACE in which it does not hold. */
        private int from;
        private int ahead;
        private int behind;
        private int barAhead;
        private int barBehind;
        private int to;

        /** As a SIMPLE LAW, of digits, and a place as simple() tells it. */
        void setSimple(int fromDigit, int toDigit, int place, int vowels) {
            from = 1 << fromDigit;
            to = toDigit;
            ahead = Rows.ALL_DIGITS;
            behind = Rows.ALL_DIGITS;
            if (place >= Pairs.BEHIND) {
                behind = Rows.digitsOf(place - Pairs.BEHIND, vowels);
            } else if (place >= Pairs.AHEAD) {
                ahead = Rows.digitsOf(place - Pairs.AHEAD, vowels);
            }
            barAhead = 0;
            barBehind = 0;
        }

        void set(int[] facts, int vowels) {
            from = Rows.digitsOf(facts[Law.FROM], vowels);
            to = Rows.rowOf(facts[Law.TO]);
            ahead = Rows.digitsOf(facts[Law.AHEAD], vowels);
            behind = Rows.digitsOf(facts[Law.AHEAD + 1], vowels);
            boolean hasBar = facts[Law.HAS_BAR] == 1;
            // without a bar no digit fits in its PLACE, so it never keeps a LAW from holding
            barAhead = hasBar ? Rows.digitsOf(facts[Law.BAR_AHEAD], vowels) : 0;
            barBehind = hasBar ? Rows.digitsOf(facts[Law.BAR_AHEAD + 1], vowels) : 0;
        }

        /** The fields at which it HOLDS. */
        int fieldsOf(int row) {
            int fields = Rows.fieldsIn(row, from);
            if (fields == 0) {
                return 0;
            }
            int first = row << Rows.FIELD_BITS;
            int last = row >>> Rows.FIELD_BITS;
            fields &= Rows.fieldsIn(first, ahead) & Rows.fieldsIn(last, behind);
            if (fields == 0 || barAhead == 0) {
                return fields;
            }
            return fields & ~(Rows.fieldsIn(first, barAhead) & Rows.fieldsIn(last, barBehind));
        }

        /** What becomes of a row over which it is RUN. */
        int over(int row) {
            int fields = fieldsOf(row);
            if (fields == 0) {
                return row;
            }
            if (to > 0 && to <= SOUNDS) {
                return row & ~(fields * 7) | fields * to;
            }
            int toBits = to == 0 ? 0 : 2 * Rows.FIELD_BITS;
            int result = 0;
            int at = 0;
            for (int i = 0; i < Rows.ROW_BITS && row >>> i != 0; i += Rows.FIELD_BITS) {
                boolean isHeld = (fields >>> i & 1) != 0;
                int bits = isHeld ? toBits : Rows.FIELD_BITS;
                if (at + bits > Rows.ROW_BITS) {
                    return row;
                }
                result |= (isHeld ? to : row >>> i & 7) << at;
                at += bits;
            }
            return result;
        }
    }

    private static final class Law {

        static final int NO_LAW = -1;

        static final int PLAIN = 0;
        static final int LOSS = 1;
        static final int SPLIT = 2;
        static final int TWIN = 3;

        static final int NO_MARK = -1;
        static final int VOWEL_MARK = 6;
        static final int OTHER_MARK = 7;
        static final int END_MARK = 8;
        static final int MARKS = 9;

        /** What facts hold, by the numbers of about(); the MARK behind stands behind the one ahead. */
        static final int KIND_OF = 0;
        static final int FROM = 1;
        static final int TO = 2;
        static final int AHEAD = 3;
        static final int BAR_AHEAD = 5;
        static final int HAS_PLACE = 7;
        static final int HAS_BAR = 8;
        static final int FACTS = 9;

        final int number;
        final int[] facts;
        final Change change;

        Law(int number, int[] facts, int vowels) {
            this.number = number;
            this.facts = facts.clone();
            change = new Change();
            change.set(facts, vowels);
        }

        void tune(int vowels) {
            change.set(facts, vowels);
        }
    }

    private static final class Tongue {

        /** The number of the TONGUE above, or -1. */
        final int above;
        /** This TONGUE and all those above it, as bits. */
        final int chain;
        final Law[] own = new Law[MOST_OWN_LAWS];
        final int[] signs = new int[SOUNDS];
        int count;
        /** Of each STEM the FORM, and above its bits the same WRITTEN; made when they are first asked for. */
        long[] forms;
        boolean isStale = true;

        Tongue(int above, int chain) {
            this.above = above;
            this.chain = chain;
            for (int i = 0; i < SOUNDS; i++) {
                signs[i] = i;
            }
        }

        void exchange(int i) {
            Law kept = own[i];
            own[i] = own[i + 1];
            own[i + 1] = kept;
        }

        boolean owns(int law) {
            for (int i = 0; i < count; i++) {
                if (own[i].number == law) {
                    return true;
                }
            }
            return false;
        }

        /** A row over which the own LAWS but the first ones are RUN, and but a muted one (Law.NO_LAW: none is). */
        int grown(int row, int skipped, int muted) {
            int result = row;
            for (int i = skipped; i < count; i++) {
                if (own[i].number != muted) {
                    result = own[i].change.over(result);
                }
            }
            return result;
        }

        /** Makes the FORMS anew from those of the TONGUE above, or of the STEMS if that is null. */
        void refresh(int[] stems, Tongue upper) {
            if (forms == null) {
                forms = new long[STEMS];
            }
            for (int s = 0; s < STEMS; s++) {
                int row = upper == null ? stems[s] : upper.formAt(s);
                for (int i = 0; i < count; i++) {
                    row = own[i].change.over(row);
                }
                forms[s] = (long) Rows.signsOf(row, signs) << Rows.ROW_BITS | row;
            }
            isStale = false;
        }

        int formAt(int s) {
            return (int) forms[s] & 0xffffff;
        }

        int writtenAt(int s) {
            return (int) (forms[s] >>> Rows.ROW_BITS);
        }
    }

    /** All TONGUES, and what is asked of all STEMS in them. */
    private static final class Family {

        static final int NO_LENDER = -1;

        final Tongue[] tongues = new Tongue[MOST_TONGUES];
        /** What a STEM should be in each TONGUE as WRITTEN, or NO_ROW. */
        final int[] wanted = new int[MOST_TONGUES];
        int count;
        /** All STEMS by their numbers; made when they are first asked for, as is fits. */
        int[] stems;
        /** In how many TONGUES each STEM is what is wanted. */
        private int[] fits;
        private int wantedCount;
        private final int[] mutedForms = new int[MOST_TONGUES];
        private final int[] mutedWritten = new int[MOST_TONGUES];
        private final int[] allWanted = new int[MOST_MATCHES * MOST_TONGUES];

        int addUnder(int above) {
            int upper = above < 0 ? 0 : tongues[above].chain;
            tongues[count] = new Tongue(above, upper | 1 << count);
            count++;
            return count - 1;
        }

        void ageAll() {
            for (int t = 0; t < count; t++) {
                tongues[t].isStale = true;
            }
        }

        /** FORMS in a TONGUE and in all below it are no longer what they were. */
        void ageBelow(int tongue) {
            for (int t = tongue; t < count; t++) {
                if ((tongues[t].chain >>> tongue & 1) != 0) {
                    tongues[t].isStale = true;
                }
            }
        }

        int rowIn(int tongue, int row) {
            int chain = tongues[tongue].chain;
            int result = row;
            for (int t = 0; t <= tongue; t++) {
                if ((chain >>> t & 1) != 0) {
                    result = tongues[t].grown(result, 0, Law.NO_LAW);
                }
            }
            return result;
        }

        private void prepareStems() {
            if (stems != null) {
                return;
            }
            stems = new int[STEMS];
            fits = new int[STEMS];
            for (int s = 0; s < STEMS; s++) {
                int digit = s % SOUNDS + 1;
                // by their numbers, the six that are a SOUND longer than a STEM stand in one row
                int shorter = s < SOUNDS ? 0 : stems[s / SOUNDS - 1];
                stems[s] = shorter | digit << Rows.FIELD_BITS * Rows.lengthOf(shorter);
            }
        }

        /** A TONGUE whose FORMS are fresh, and those of all above it. */
        private Tongue freshened(int tongue) {
            prepareStems();
            int chain = tongues[tongue].chain;
            for (int t = 0; t <= tongue; t++) {
                Tongue next = tongues[t];
                if ((chain >>> t & 1) != 0 && next.isStale) {
                    next.refresh(stems, next.above < 0 ? null : tongues[next.above]);
                }
            }
            return tongues[tongue];
        }

        /** The least STEM whose FORM would be another one if two neighbouring LAWS were exchanged, or NO_ROW. */
        int leastSwayed(int tongue, int i) {
            Tongue swapper = freshened(tongue);
            Tongue upper = swapper.above < 0 ? null : tongues[swapper.above];
            int least = Rows.NO_ROW;
            swapper.exchange(i);
            for (int s = 0; s < STEMS && least == Rows.NO_ROW; s++) {
                int base = upper == null ? stems[s] : upper.formAt(s);
                if (swapper.grown(base, 0, Law.NO_LAW) != swapper.formAt(s)) {
                    least = stems[s];
                }
            }
            swapper.exchange(i);
            return least;
        }

        void wantIn(int tongue, int row) {
            Arrays.fill(wanted, Rows.NO_ROW);
            wanted[tongue] = row;
        }

        /** Asks of each STEM in how many TONGUES it is what is wanted; the questions below it tell what came out. */
        void weigh() {
            prepareStems();
            Arrays.fill(fits, 0);
            wantedCount = 0;
            for (int t = 0; t < count; t++) {
                if (wanted[t] != Rows.NO_ROW) {
                    wantedCount++;
                    long[] forms = freshened(t).forms;
                    long want = wanted[t];
                    for (int s = 0; s < STEMS; s++) {
                        if (forms[s] >>> Rows.ROW_BITS == want) {
                            fits[s]++;
                        }
                    }
                }
            }
        }

        int countFitting() {
            int fitting = 0;
            for (int s = 0; s < STEMS; s++) {
                if (fits[s] == wantedCount) {
                    fitting++;
                }
            }
            return fitting;
        }

        /** The i-th STEM that is what is wanted everywhere, or NO_ROW. */
        int fittingAt(int i) {
            int left = i;
            for (int s = 0; s < STEMS; s++) {
                if (fits[s] == wantedCount) {
                    if (left == 0) {
                        return stems[s];
                    }
                    left--;
                }
            }
            return Rows.NO_ROW;
        }

        /** What stands at a place of STEMS that are what is wanted everywhere, as doubt() tells it. */
        int soundsAt(int place) {
            int sounds = 0;
            for (int s = 0; s < STEMS; s++) {
                if (fits[s] == wantedCount) {
                    int digit = stems[s] >>> place * Rows.FIELD_BITS & 7;
                    sounds |= digit == 0 ? 1 << SOUNDS : 1 << digit - 1;
                }
            }
            return sounds;
        }

        /** Which one of the STEMS is THE BEST, from 0. */
        int bestFitting() {
            int best = 0;
            for (int s = 1; s < STEMS; s++) {
                if (fits[s] > fits[best]) {
                    best = s;
                }
            }
            return best;
        }

        /** TONGUES in which a STEM is not what is wanted, as bits. */
        int unfitFor(int s) {
            int unfit = 0;
            for (int t = 0; t < count; t++) {
                if (wanted[t] != Rows.NO_ROW && tongues[t].writtenAt(s) != wanted[t]) {
                    unfit |= 1 << t;
                }
            }
            return unfit;
        }

        /** From where what is wanted in a TONGUE was LENT, as lent() tells it, or NO_LENDER. */
        int lenderOf(int tongue, int best) {
            Tongue taker = tongues[tongue];
            for (int t = 0; t < count; t++) {
                if (t != tongue) {
                    int lent = rowIn(t, best);
                    for (int k = 0; k <= taker.count; k++) {
                        if (Rows.signsOf(taker.grown(lent, k, Law.NO_LAW), taker.signs) == wanted[tongue]) {
                            return 10 * t + k;
                        }
                    }
                }
            }
            return NO_LENDER;
        }

        /** How many MATCHES would have other MOTHERS without a LAW. */
        int countLeaning(int muted, Finds finds, int year) {
            int touched = touchedBy(muted);
            if (touched == 0) {
                return 0;
            }
            int open = gatherTouched(finds, year, touched);
            for (int t = 0; t < count && open != 0; t++) {
                freshened(t);
            }
            int leaning = 0;
            for (int s = 0; s < STEMS && open != 0; s++) {
                if (mute(s, muted, touched)) {
                    int swayed = swayedIn(s, open, finds.matches);
                    leaning += Integer.bitCount(swayed);
                    open &= ~swayed;
                }
            }
            return leaning;
        }

        /** TONGUES that have a LAW, or are under one that has it, as bits. */
        private int touchedBy(int law) {
            int owners = 0;
            int touched = 0;
            for (int t = 0; t < count; t++) {
                if (tongues[t].owns(law)) {
                    owners |= 1 << t;
                }
                if ((tongues[t].chain & owners) != 0) {
                    touched |= 1 << t;
                }
            }
            return touched;
        }

        /** MATCHES of which something is known in a touched TONGUE, as bits; what is known of all is kept. */
        private int gatherTouched(Finds finds, int year, int touched) {
            int open = 0;
            for (int m = 0; m < finds.matches; m++) {
                finds.gather(m, year, wanted);
                for (int t = 0; t < MOST_TONGUES; t++) {
                    allWanted[m * MOST_TONGUES + t] = wanted[t];
                    if (wanted[t] != Rows.NO_ROW && (touched >>> t & 1) != 0) {
                        open |= 1 << m;
                    }
                }
            }
            return open;
        }

        /** Finds what a STEM is in each TONGUE without a LAW: whether it is WRITTEN otherwise in one. */
        private boolean mute(int s, int muted, int touched) {
            boolean isOther = false;
            for (int t = 0; t < count; t++) {
                Tongue tongue = tongues[t];
                if ((touched >>> t & 1) == 0) {
                    mutedForms[t] = tongue.formAt(s);
                    mutedWritten[t] = tongue.writtenAt(s);
                } else {
                    int base = tongue.above < 0 ? stems[s] : mutedForms[tongue.above];
                    mutedForms[t] = tongue.grown(base, 0, muted);
                    mutedWritten[t] = Rows.signsOf(mutedForms[t], tongue.signs);
                    isOther = isOther || mutedWritten[t] != tongue.writtenAt(s);
                }
            }
            return isOther;
        }

        /** MATCHES of some of which a STEM is a MOTHER either with the muted LAW or without it alone, as bits. */
        private int swayedIn(int s, int some, int matches) {
            int swayed = 0;
            for (int m = 0; m < matches; m++) {
                if ((some >>> m & 1) != 0) {
                    boolean is = true;
                    boolean would = true;
                    for (int t = 0; t < count && (is || would); t++) {
                        int want = allWanted[m * MOST_TONGUES + t];
                        is = is && (want == Rows.NO_ROW || want == tongues[t].writtenAt(s));
                        would = would && (want == Rows.NO_ROW || want == mutedWritten[t]);
                    }
                    if (is != would) {
                        swayed |= 1 << m;
                    }
                }
            }
            return swayed;
        }
    }

    /** MATCHES, and FINDS in the order of their YEARS. */
    private static final class Finds {

        int matches;
        int count;
        private final int[] matchOf = new int[MOST_FINDS];
        private final int[] tongueOf = new int[MOST_FINDS];
        private final int[] rowOf = new int[MOST_FINDS];
        private final int[] yearOf = new int[MOST_FINDS];

        int latestYear() {
            return count == 0 ? 0 : yearOf[count - 1];
        }

        /** A new FIND; NO_ROW takes back. */
        int enter(int match, int tongue, int row, int year) {
            matchOf[count] = match;
            tongueOf[count] = tongue;
            rowOf[count] = row;
            yearOf[count] = year;
            count++;
            return count - 1;
        }

        /** Puts what is known of a MATCH in each TONGUE, or NO_ROW. */
        void gather(int match, int year, int[] known) {
            Arrays.fill(known, Rows.NO_ROW);
            for (int i = 0; i < count && yearOf[i] <= year; i++) {
                if (matchOf[i] == match) {
                    known[tongueOf[i]] = rowOf[i];
                }
            }
        }
    }

    /** PAIRS, and the FEWEST SIMPLE LAWS between them. */
    private static final class Pairs {

        static final int NO_LAWS = -1;
        static final int TRAITS = 3;
        /** Where the numbers of PLACES with a MARK ahead and behind begin, and where they end. */
        static final int AHEAD = 1;
        static final int BEHIND = 10;
        static final int PLACES = BEHIND + Law.MARKS;

        int count;
        /** How many LAWS FEWEST has, or NO_LAWS. */
        int laws;
        boolean isStale = true;
        /** FROM, TO and PLACE of each LAW of FEWEST, as simple() tells them. */
        final int[] answer = new int[2 * TRAITS];
        private final int[] firsts = new int[MOST_PAIRS];
        private final int[] others = new int[MOST_PAIRS];
        private final int[] middles = new int[MOST_PAIRS];
        private final Change change = new Change();

        int join(int first, int other) {
            firsts[count] = first;
            others[count] = other;
            count++;
            isStale = true;
            return count;
        }

        /** What the first WORD of a PAIR is behind the first LAW of FEWEST. */
        int middleOf(int i, int vowels) {
            if (laws < 1) {
                return firsts[i];
            }
            change.setSimple(answer[0] + 1, answer[1] + 1, answer[2], vowels);
            return change.over(firsts[i]);
        }

        void search(int vowels) {
            if (!isStale) {
                return;
            }
            isStale = false;
            if (firstUnlike(firsts) == count) {
                laws = 0;
            } else if (closes(firsts, 0, vowels)) {
                laws = 1;
            } else {
                laws = opens(vowels) ? 2 : NO_LAWS;
            }
        }

        /** Whether there is a first LAW behind which one more is enough; both come to the answer. */
        private boolean opens(int vowels) {
            for (int from = 1; from <= SOUNDS; from++) {
                for (int to = 0; to <= SOUNDS; to++) {
                    for (int place = 0; place < PLACES && to != from; place++) {
                        change.setSimple(from, to, place, vowels);
                        for (int i = 0; i < count; i++) {
                            middles[i] = change.over(firsts[i]);
                        }
                        if (closes(middles, 1, vowels)) {
                            keep(0, from, to, place);
                            return true;
                        }
                    }
                }
            }
            return false;
        }

        /**
         * Whether one LAW makes of all rows the others of the PAIRS; the first such comes to the answer. Where a row
         * and its other one part first, there must stand its FROM: all SOUNDS that are not FROM stay, in their order.
         * So FROM and TO are known, and only PLACES are to be tried.
         */
        private boolean closes(int[] rows, int slot, int vowels) {
            int unlike = firstUnlike(rows);
            if (unlike == count) {
                return false;
            }
            int row = rows[unlike];
            int other = others[unlike];
            int shorter = Rows.lengthOf(row) - Rows.lengthOf(other);
            if (shorter < 0) {
                return false;
            }
            int at = partingBits(row, other);
            int from = row >>> at & 7;
            int to = shorter > 0 ? 0 : other >>> at & 7;
            for (int place = 0; place < PLACES; place++) {
                change.setSimple(from, to, place, vowels);
                int made = 0;
                while (made < count && change.over(rows[made]) == others[made]) {
                    made++;
                }
                if (made == count) {
                    keep(slot, from, to, place);
                    return true;
                }
            }
            return false;
        }

        private int firstUnlike(int[] rows) {
            int i = 0;
            while (i < count && rows[i] == others[i]) {
                i++;
            }
            return i;
        }

        /** By how many bits the first field in which two rows are unlike is shifted. */
        private static int partingBits(int row, int other) {
            int at = 0;
            while (at < Rows.ROW_BITS - Rows.FIELD_BITS && ((row ^ other) >>> at & 7) == 0) {
                at += Rows.FIELD_BITS;
            }
            return at;
        }

        private void keep(int slot, int from, int to, int place) {
            answer[slot * TRAITS] = from - 1;
            answer[slot * TRAITS + 1] = to - 1;
            answer[slot * TRAITS + 2] = place;
        }
    }

    /** PLACES, ROADS and WAVES, and THE LIST. */
    private static final class Land {

        static final int NEVER_SHUT = 1000;
        static final int NEVER = -1;

        int waves;
        int listed;
        /** The YEAR in which each WAVE comes to each PLACE, or NEVER; right when spread() has been called. */
        final int[] arrivals = new int[MOST_WAVES * LAND_PLACES];
        private boolean isStale = true;
        private final int[] roads = new int[LAND_PLACES * LAND_PLACES];
        private final int[] shutFrom = new int[LAND_PLACES];
        private final Change[] changeOf = new Change[MOST_WAVES];
        private final int[] placeOf = new int[MOST_WAVES];
        private final int[] yearOf = new int[MOST_WAVES];
        private final int[] words = new int[MOST_LISTED];
        private final int[] spokenWords = new int[LAND_PLACES * MOST_LISTED];

        Land() {
            Arrays.fill(shutFrom, NEVER_SHUT);
        }

        int build(int a, int b, int years) {
            int took = roads[a * LAND_PLACES + b];
            roads[a * LAND_PLACES + b] = years;
            roads[b * LAND_PLACES + a] = years;
            isStale = true;
            return took;
        }

        int close(int place, int year) {
            int was = shutFrom[place];
            shutFrom[place] = year;
            isStale = true;
            return was;
        }

        int start(Change change, int place, int year) {
            changeOf[waves] = change;
            placeOf[waves] = place;
            yearOf[waves] = year;
            waves++;
            isStale = true;
            return waves - 1;
        }

        void enlist(int row) {
            words[listed] = row;
            listed++;
        }

        /** Finds all arrivals, if they may have changed. */
        void spread() {
            if (!isStale) {
                return;
            }
            isStale = false;
            Arrays.fill(arrivals, NEVER);
            for (int w = 0; w < waves; w++) {
                arrive(w, placeOf[w], yearOf[w]);
                // the earliest way goes through no PLACE twice, so it has fewer ROADS than there are PLACES
                boolean isMoving = true;
                for (int i = 1; i < LAND_PLACES && isMoving; i++) {
                    isMoving = travel(w);
                }
            }
        }

        /** A WAVE goes one ROAD further from all PLACES to which it came: whether it came anywhere anew. */
        private boolean travel(int wave) {
            boolean isMoving = false;
            for (int a = 0; a < LAND_PLACES; a++) {
                int year = arrivals[wave * LAND_PLACES + a];
                for (int b = 0; b < LAND_PLACES && year != NEVER; b++) {
                    int years = roads[a * LAND_PLACES + b];
                    if (years != 0 && arrive(wave, b, year + years)) {
                        isMoving = true;
                    }
                }
            }
            return isMoving;
        }

        /** A WAVE comes to a PLACE, if that is not SHUT then, and it did not come there earlier. */
        private boolean arrive(int wave, int place, int year) {
            int at = wave * LAND_PLACES + place;
            boolean isShut = shutFrom[place] != NEVER_SHUT && year >= shutFrom[place];
            if (isShut || arrivals[at] != NEVER && arrivals[at] <= year) {
                return false;
            }
            arrivals[at] = year;
            return true;
        }

        /** What a row is in the SPEECH of a PLACE in a YEAR. */
        int spoken(int place, int year, int row) {
            int result = row;
            int done = 0;
            for (int i = 0; i < waves; i++) {
                int next = nextWave(place, year, done);
                if (next == NEVER) {
                    break;
                }
                result = changeOf[next].over(result);
                done |= 1 << next;
            }
            return result;
        }

        /** Which WAVE came first to a PLACE up to a YEAR, of those that are not done, or NEVER. */
        private int nextWave(int place, int year, int done) {
            int next = NEVER;
            int earliest = year + 1;
            for (int w = 0; w < waves; w++) {
                int came = arrivals[w * LAND_PLACES + place];
                if ((done >>> w & 1) == 0 && came != NEVER && came < earliest) {
                    next = w;
                    earliest = came;
                }
            }
            return next;
        }

        int countSpeeches(int year) {
            int speeches = 0;
            for (int place = 0; place < LAND_PLACES; place++) {
                speakList(place, year);
                boolean isNew = true;
                for (int earlier = 0; earlier < place && isNew; earlier++) {
                    isNew = !speakAlike(earlier, place);
                }
                speeches += isNew ? 1 : 0;
            }
            return speeches;
        }

        /** The first YEAR in which two PLACES don't SPEAK ALIKE, or NEVER. */
        int firstParting(int a, int b) {
            int year = nextYear(a, b, NEVER);
            for (int i = 0; i < 2 * MOST_WAVES && year != NEVER; i++) {
                speakList(a, year);
                speakList(b, year);
                if (!speakAlike(a, b)) {
                    return year;
                }
                year = nextYear(a, b, year);
            }
            return NEVER;
        }

        /** The first YEAR behind another one in which a WAVE comes to one of two PLACES, or NEVER. */
        private int nextYear(int a, int b, int year) {
            int next = YEARS;
            for (int w = 0; w < waves; w++) {
                int cameToA = arrivals[w * LAND_PLACES + a];
                int cameToB = arrivals[w * LAND_PLACES + b];
                next = cameToA > year ? Math.min(next, cameToA) : next;
                next = cameToB > year ? Math.min(next, cameToB) : next;
            }
            return next < YEARS ? next : NEVER;
        }

        private void speakList(int place, int year) {
            for (int i = 0; i < listed; i++) {
                spokenWords[place * MOST_LISTED + i] = spoken(place, year, words[i]);
            }
        }

        /** Whether two PLACES said the same when they last spoke THE LIST. */
        private boolean speakAlike(int a, int b) {
            for (int i = 0; i < listed; i++) {
                if (spokenWords[a * MOST_LISTED + i] != spokenWords[b * MOST_LISTED + i]) {
                    return false;
                }
            }
            return true;
        }
    }

    private static final class Sheet {

        /** 0: the sheet is MISSING. */
        int bits;
        int size;
        final int[] numbers = new int[MOST_NUMBERS];

        int renew(int newBits, int newSize) {
            bits = newBits;
            size = newBits == 0 ? 0 : newSize;
            Arrays.fill(numbers, 0);
            return size;
        }

        /** The lowest bits are a number with a sign, as 8, 16 and 32 bits are in byte, short and int. */
        int put(int i, int v) {
            int was = numbers[i];
            if (bits == 8) {
                numbers[i] = (byte) v;
            } else if (bits == 16) {
                numbers[i] = (short) v;
            } else {
                numbers[i] = v;
            }
            return was;
        }

        boolean hasSpan(int from, int n) {
            return from >= 0 && n >= 0 && (long) from + n <= size;
        }
    }
}

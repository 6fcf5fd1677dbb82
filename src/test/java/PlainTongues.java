import java.util.ArrayList;
import java.util.Arrays;
import java.util.HashSet;
import java.util.List;
import java.util.Set;
import java.util.regex.Matcher;
import java.util.regex.Pattern;

/**
 * The document told a second time, with texts for WORDS and without any care for speed: RandomRunsTest holds
 * DaughterTongues against it. It shares no way of working with the class, so that a slip in one shows.
 */
final class PlainTongues {

    static final int BEYOND = -1000001;
    static final int FULL = -1000002;
    static final int KIND = -1000003;
    static final int NONE = -1000004;
    static final int STATE = -1000005;
    static final int MISSING = -1000006;
    static final int SIZE = -1000007;
    static final int WRONG = -1000100;

    private static final Pattern TEXT =
            Pattern.compile("([a-fVC])>(-|[a-f]{1,2})(/([a-fVC#]?)_([a-fVC#]?))?(!([a-fVC#]?)_([a-fVC#]?))?");
    private static final List<String> STEMS = stems();

    private static final class Sound {
        final String from;
        final String to;
        final String[] place;
        final String[] bar;

        Sound(String from, String to, String[] place, String[] bar) {
            this.from = from;
            this.to = to;
            this.place = place;
            this.bar = bar;
        }
    }

    private static final class Branch {
        final int above;
        final List<Integer> own = new ArrayList<>();
        final int[] signs = {0, 1, 2, 3, 4, 5};

        Branch(int above) {
            this.above = above;
        }
    }

    private record Find(int match, int tongue, int number, int year) { }

    private record Wave(int law, int place, int year) { }

    private String vowels = "ae";
    private String tape = "";
    private final List<Sound> laws = new ArrayList<>();
    private final List<Branch> tongues = new ArrayList<>();
    private int matches;
    private final List<Find> finds = new ArrayList<>();
    private final List<String[]> pairs = new ArrayList<>();
    private final int[][] roads = new int[8][8];
    private final int[] shut = new int[8];
    private final List<Wave> waves = new ArrayList<>();
    private final List<String> list = new ArrayList<>();
    private final long[][] sheets = new long[4][];
    private final int[] sheetBits = new int[4];
    /** Open to tests, so that they can ask without being counted. */
    int findings;
    private int muted = -1;
    private List<String> fewestQuestion;
    private List<Sound> fewestAnswer;

    PlainTongues() {
        Arrays.fill(shut, 1000);
    }

    private static List<String> stems() {
        List<String> all = new ArrayList<>();
        List<String> longest = List.of("");
        for (int length = 1; length <= 5; length++) {
            List<String> longer = new ArrayList<>();
            for (String word : longest) {
                for (char c = 'a'; c <= 'f'; c++) {
                    longer.add(word + c);
                }
            }
            all.addAll(longer);
            longest = longer;
        }
        return all;
    }

    /** The WORD of a number, or null. */
    static String word(int number) {
        if (number < 0) {
            return null;
        }
        String digits = number == 0 ? "" : Integer.toString(number, 7);
        if (digits.length() > 8 || digits.contains("0")) {
            return null;
        }
        StringBuilder word = new StringBuilder();
        for (char c : digits.toCharArray()) {
            word.append((char) (c - '1' + 'a'));
        }
        return word.toString();
    }

    static int number(String word) {
        int number = 0;
        for (char c : word.toCharArray()) {
            number = 7 * number + (c - 'a') + 1;
        }
        return number;
    }

    private int finding(int answer) {
        findings++;
        return answer;
    }

    private static boolean out(int i, int n) {
        return i < 0 || i >= n;
    }

    int vowel(int sound, boolean is) {
        if (out(sound, 6)) {
            return finding(BEYOND);
        }
        String letter = String.valueOf((char) ('a' + sound));
        boolean was = vowels.contains(letter);
        vowels = vowels.replace(letter, "");
        if (is) {
            vowels += letter;
        }
        return was ? 1 : 0;
    }

    int feed(long w, int n) {
        if (n < 1 || n > 8) {
            return finding(BEYOND);
        }
        if (tape.length() + n > 40) {
            return finding(FULL);
        }
        for (int i = 0; i < n; i++) {
            tape += (char) (w & 255);
            w >>= 8;
        }
        return tape.length();
    }

    int law() {
        String text = tape;
        tape = "";
        Matcher whole = TEXT.matcher(text);
        if (!whole.matches()) {
            int good = 0;
            while (good < text.length() && canBegin(text.substring(0, good + 1))) {
                good++;
            }
            return finding(WRONG - good);
        }
        if (laws.size() == 24) {
            return finding(FULL);
        }
        String to = whole.group(2).equals("-") ? "" : whole.group(2);
        String[] place = whole.group(3) == null ? null : new String[] {whole.group(4), whole.group(5)};
        String[] bar = whole.group(6) == null ? null : new String[] {whole.group(7), whole.group(8)};
        laws.add(new Sound(whole.group(1), to, place, bar));
        return laws.size() - 1;
    }

    private static boolean canBegin(String text) {
        Matcher m = TEXT.matcher(text);
        return m.matches() || m.hitEnd();
    }

    private static int kind(Sound law) {
        switch (law.to.length()) {
            case 0:
                return 1;
            case 1:
                return 0;
            default:
                return law.to.equals(law.from + law.from) ? 3 : 2;
        }
    }

    int as(int law, int kind) {
        if (out(law, laws.size()) || out(kind, 4)) {
            return finding(BEYOND);
        }
        int[] parents = {-1, 0, 0, 2};
        for (int k = kind(laws.get(law)); k >= 0; k = parents[k]) {
            if (k == kind) {
                return law;
            }
        }
        return finding(KIND);
    }

    int about(int law, int what) {
        if (out(law, laws.size()) || out(what, 9)) {
            return finding(BEYOND);
        }
        Sound s = laws.get(law);
        switch (what) {
            case 0:
                return kind(s);
            case 1:
                return mark(s.from);
            case 2:
                return number(s.to);
            case 3:
            case 4:
                return s.place == null ? -1 : mark(s.place[what - 3]);
            case 5:
            case 6:
                return s.bar == null ? -1 : mark(s.bar[what - 5]);
            case 7:
                return s.place == null ? 0 : 1;
            default:
                return s.bar == null ? 0 : 1;
        }
    }

    private static int mark(String mark) {
        return mark.isEmpty() ? -1 : "abcdefVC#".indexOf(mark);
    }

    /** Whether a MARK fits a SOUND, or an end (null). */
    private boolean fits(String mark, String sound) {
        switch (mark) {
            case "":
                return true;
            case "#":
                return sound == null;
            case "V":
                return sound != null && vowels.contains(sound);
            case "C":
                return sound != null && !vowels.contains(sound);
            default:
                return mark.equals(sound);
        }
    }

    private boolean placeFits(String[] place, String word, int i) {
        String ahead = i == 0 ? null : word.substring(i - 1, i);
        String behind = i == word.length() - 1 ? null : word.substring(i + 1, i + 2);
        return fits(place[0], ahead) && fits(place[1], behind);
    }

    private boolean holdsAt(Sound law, String word, int i) {
        return fits(law.from, word.substring(i, i + 1))
                && (law.place == null || placeFits(law.place, word, i))
                && (law.bar == null || !placeFits(law.bar, word, i));
    }

    private String over(Sound law, String word) {
        StringBuilder result = new StringBuilder();
        for (int i = 0; i < word.length(); i++) {
            result.append(holdsAt(law, word, i) ? law.to : word.substring(i, i + 1));
        }
        return result.length() > 8 ? word : result.toString();
    }

    private String overNumbered(int law, String word) {
        return law == muted ? word : over(laws.get(law), word);
    }

    int run(int law, int word) {
        if (out(law, laws.size()) || word(word) == null) {
            return finding(BEYOND);
        }
        return number(over(laws.get(law), word(word)));
    }

    int holds(int law, int word) {
        if (out(law, laws.size()) || word(word) == null) {
            return finding(BEYOND);
        }
        int bits = 0;
        for (int i = 0; i < word(word).length(); i++) {
            bits += holdsAt(laws.get(law), word(word), i) ? 1 << i : 0;
        }
        return bits;
    }

    int tongue(int above) {
        if (above != -1 && out(above, tongues.size())) {
            return finding(BEYOND);
        }
        if (tongues.size() == 8) {
            return finding(FULL);
        }
        tongues.add(new Branch(above));
        return tongues.size() - 1;
    }

    int take(int tongue, int law) {
        if (out(tongue, tongues.size()) || out(law, laws.size())) {
            return finding(BEYOND);
        }
        List<Integer> own = tongues.get(tongue).own;
        if (own.size() == 6) {
            return finding(FULL);
        }
        own.add(law);
        return own.size();
    }

    int leave(int tongue) {
        if (out(tongue, tongues.size())) {
            return finding(BEYOND);
        }
        List<Integer> own = tongues.get(tongue).own;
        if (own.isEmpty()) {
            return finding(NONE);
        }
        own.remove(own.size() - 1);
        return own.size();
    }

    private boolean notBoth(int tongue, int i) {
        return out(tongue, tongues.size()) || out(i, tongues.get(tongue).own.size() - 1);
    }

    int swap(int tongue, int i) {
        if (notBoth(tongue, i)) {
            return finding(BEYOND);
        }
        List<Integer> own = tongues.get(tongue).own;
        int kept = own.get(i);
        own.set(i, own.get(i + 1));
        own.set(i + 1, kept);
        return own.get(i) == kept ? 0 : 1;
    }

    int own(int tongue, int i) {
        if (out(tongue, tongues.size()) || out(i, tongues.get(tongue).own.size())) {
            return finding(BEYOND);
        }
        return tongues.get(tongue).own.get(i);
    }

    private String formOf(int tongue, String word) {
        if (tongue == -1) {
            return word;
        }
        String result = formOf(tongues.get(tongue).above, word);
        for (int law : tongues.get(tongue).own) {
            result = overNumbered(law, result);
        }
        return result;
    }

    int form(int tongue, int word) {
        if (tongue != -1 && out(tongue, tongues.size()) || word(word) == null) {
            return finding(BEYOND);
        }
        return number(formOf(tongue, word(word)));
    }

    int order(int tongue, int i) {
        if (notBoth(tongue, i)) {
            return finding(BEYOND);
        }
        List<Integer> own = tongues.get(tongue).own;
        List<Integer> other = new ArrayList<>(own);
        other.set(i, own.get(i + 1));
        other.set(i + 1, own.get(i));
        for (String stem : STEMS) {
            String upper = formOf(tongues.get(tongue).above, stem);
            String is = upper;
            String would = upper;
            for (int k = 0; k < own.size(); k++) {
                is = over(laws.get(own.get(k)), is);
                would = over(laws.get(other.get(k)), would);
            }
            if (!is.equals(would)) {
                return number(stem);
            }
        }
        return finding(NONE);
    }

    int script(int tongue, int sound, int sign) {
        if (out(tongue, tongues.size()) || out(sound, 6) || sign != -1 && out(sign, 6)) {
            return finding(BEYOND);
        }
        int had = tongues.get(tongue).signs[sound];
        tongues.get(tongue).signs[sound] = sign;
        return had;
    }

    private String write(int tongue, String word) {
        StringBuilder text = new StringBuilder();
        for (char c : word.toCharArray()) {
            int sign = tongues.get(tongue).signs[c - 'a'];
            if (sign != -1) {
                text.append((char) ('a' + sign));
            }
        }
        return text.toString();
    }

    private String writtenForm(int tongue, String word) {
        return write(tongue, formOf(tongue, word));
    }

    int written(int tongue, int word) {
        if (out(tongue, tongues.size()) || word(word) == null) {
            return finding(BEYOND);
        }
        return number(writtenForm(tongue, word(word)));
    }

    private List<String> stemsOf(int tongue, int number) {
        List<String> all = new ArrayList<>();
        for (String stem : STEMS) {
            if (writtenForm(tongue, stem).equals(word(number))) {
                all.add(stem);
            }
        }
        return all;
    }

    int back(int tongue, int number) {
        if (out(tongue, tongues.size()) || word(number) == null) {
            return finding(BEYOND);
        }
        return stemsOf(tongue, number).size();
    }

    int stem(int tongue, int number, int i) {
        if (out(tongue, tongues.size()) || word(number) == null || i < 0) {
            return finding(BEYOND);
        }
        List<String> all = stemsOf(tongue, number);
        return i < all.size() ? number(all.get(i)) : finding(NONE);
    }

    int match() {
        if (matches == 10) {
            return finding(FULL);
        }
        return matches++;
    }

    int find(int match, int tongue, int number, int year) {
        if (out(match, matches) || out(tongue, tongues.size()) || out(year, 1000)
                || number != -1 && word(number) == null) {
            return finding(BEYOND);
        }
        for (Find f : finds) {
            if (f.year > year) {
                return finding(STATE);
            }
        }
        if (finds.size() == 60) {
            return finding(FULL);
        }
        finds.add(new Find(match, tongue, number, year));
        return finds.size() - 1;
    }

    /** What is known, or null. */
    private String knownOf(int match, int tongue, int year) {
        for (int i = finds.size() - 1; i >= 0; i--) {
            Find f = finds.get(i);
            if (f.match == match && f.tongue == tongue && f.year <= year) {
                return word(f.number);
            }
        }
        return null;
    }

    int known(int match, int tongue, int year) {
        if (out(match, matches) || out(tongue, tongues.size()) || out(year, 1000)) {
            return finding(BEYOND);
        }
        String known = knownOf(match, tongue, year);
        return known == null ? finding(NONE) : number(known);
    }

    private boolean isSo(int match, int year, int tongue, String stem) {
        String known = knownOf(match, tongue, year);
        return known != null && writtenForm(tongue, stem).equals(known);
    }

    private List<String> mothersOf(int match, int year) {
        List<String> all = new ArrayList<>();
        for (String stem : STEMS) {
            boolean is = true;
            for (int t = 0; t < tongues.size() && is; t++) {
                is = knownOf(match, t, year) == null || isSo(match, year, t, stem);
            }
            if (is) {
                all.add(stem);
            }
        }
        return all;
    }

    private boolean noMatch(int match, int year) {
        return out(match, matches) || out(year, 1000);
    }

    int mothers(int match, int year) {
        return noMatch(match, year) ? finding(BEYOND) : mothersOf(match, year).size();
    }

    int mother(int match, int year, int i) {
        if (noMatch(match, year) || i < 0) {
            return finding(BEYOND);
        }
        List<String> all = mothersOf(match, year);
        return i < all.size() ? number(all.get(i)) : finding(NONE);
    }

    int doubt(int match, int year, int place) {
        if (noMatch(match, year) || out(place, 5)) {
            return finding(BEYOND);
        }
        int bits = 0;
        for (String stem : mothersOf(match, year)) {
            bits |= place < stem.length() ? 1 << (stem.charAt(place) - 'a') : 64;
        }
        return bits;
    }

    private String bestOf(int match, int year) {
        String best = null;
        int most = -1;
        for (String stem : STEMS) {
            int so = 0;
            for (int t = 0; t < tongues.size(); t++) {
                so += isSo(match, year, t, stem) ? 1 : 0;
            }
            if (so > most) {
                most = so;
                best = stem;
            }
        }
        return best;
    }

    int best(int match, int year) {
        return noMatch(match, year) ? finding(BEYOND) : number(bestOf(match, year));
    }

    int breakers(int match, int year) {
        if (noMatch(match, year)) {
            return finding(BEYOND);
        }
        String best = bestOf(match, year);
        int bits = 0;
        for (int t = 0; t < tongues.size(); t++) {
            bits |= knownOf(match, t, year) != null && !isSo(match, year, t, best) ? 1 << t : 0;
        }
        return bits;
    }

    int lent(int match, int year, int tongue) {
        if (noMatch(match, year) || out(tongue, tongues.size())) {
            return finding(BEYOND);
        }
        String best = bestOf(match, year);
        String known = knownOf(match, tongue, year);
        if (known == null || isSo(match, year, tongue, best)) {
            return finding(STATE);
        }
        List<Integer> own = tongues.get(tongue).own;
        for (int t = 0; t < tongues.size(); t++) {
            for (int k = 0; k <= own.size() && t != tongue; k++) {
                String word = formOf(t, best);
                for (int law : own.subList(k, own.size())) {
                    word = overNumbered(law, word);
                }
                if (write(tongue, word).equals(known)) {
                    return 10 * t + k;
                }
            }
        }
        return finding(NONE);
    }

    int leans(int law, int year) {
        if (out(law, laws.size()) || out(year, 1000)) {
            return finding(BEYOND);
        }
        int count = 0;
        for (int m = 0; m < matches; m++) {
            List<String> with = mothersOf(m, year);
            muted = law;
            List<String> without = mothersOf(m, year);
            muted = -1;
            count += with.equals(without) ? 0 : 1;
        }
        return count;
    }

    int pair(int from, int to) {
        if (word(from) == null || word(to) == null) {
            return finding(BEYOND);
        }
        if (pairs.size() == 6) {
            return finding(FULL);
        }
        pairs.add(new String[] {word(from), word(to)});
        return pairs.size();
    }

    int unpair() {
        int count = pairs.size();
        pairs.clear();
        return count;
    }

    private static List<Sound> simpleLaws() {
        List<Sound> all = new ArrayList<>();
        for (String from : "a b c d e f".split(" ")) {
            for (String to : ",a,b,c,d,e,f".split(",")) {
                if (!to.equals(from)) {
                    all.add(new Sound(from, to, null, null));
                    for (String mark : "a b c d e f V C #".split(" ")) {
                        all.add(new Sound(from, to, new String[] {mark, ""}, null));
                    }
                    for (String mark : "a b c d e f V C #".split(" ")) {
                        all.add(new Sound(from, to, new String[] {"", mark}, null));
                    }
                }
            }
        }
        return all;
    }

    private List<String> side(int which) {
        List<String> words = new ArrayList<>();
        for (String[] pair : pairs) {
            words.add(pair[which]);
        }
        return words;
    }

    private List<String> overAll(Sound law, List<String> words) {
        List<String> results = new ArrayList<>();
        for (String word : words) {
            results.add(over(law, word));
        }
        return results;
    }

    /** FEWEST, or null; kept by all that it hangs on, since it takes long. */
    private List<Sound> fewestLaws() {
        List<String> question = List.of(vowels, side(0).toString(), side(1).toString());
        if (!question.equals(fewestQuestion)) {
            fewestQuestion = question;
            fewestAnswer = searchFewest(side(0), side(1));
        }
        return fewestAnswer;
    }

    private List<Sound> searchFewest(List<String> from, List<String> to) {
        if (from.equals(to)) {
            return List.of();
        }
        List<Sound> simple = simpleLaws();
        for (Sound law : simple) {
            if (overAll(law, from).equals(to)) {
                return List.of(law);
            }
        }
        Set<List<String>> tried = new HashSet<>();
        for (Sound first : simple) {
            List<String> middle = overAll(first, from);
            if (tried.add(middle)) {
                for (Sound second : simple) {
                    if (over(second, middle.get(0)).equals(to.get(0)) && overAll(second, middle).equals(to)) {
                        return List.of(first, second);
                    }
                }
            }
        }
        return null;
    }

    int fewest() {
        List<Sound> laws = fewestLaws();
        return laws == null ? finding(NONE) : laws.size();
    }

    int simple(int i, int what) {
        if (i < 0 || out(what, 3)) {
            return finding(BEYOND);
        }
        List<Sound> laws = fewestLaws();
        if (laws == null || i >= laws.size()) {
            return finding(NONE);
        }
        Sound law = laws.get(i);
        switch (what) {
            case 0:
                return mark(law.from);
            case 1:
                return mark(law.to);
            default:
                if (law.place == null) {
                    return 0;
                }
                return law.place[0].isEmpty() ? 10 + mark(law.place[1]) : 1 + mark(law.place[0]);
        }
    }

    int proof(int i) {
        if (out(i, pairs.size())) {
            return finding(BEYOND);
        }
        List<Sound> laws = fewestLaws();
        if (laws == null) {
            return finding(NONE);
        }
        String word = pairs.get(i)[0];
        return number(laws.isEmpty() ? word : over(laws.get(0), word));
    }

    int road(int a, int b, int years) {
        if (out(a, 8) || out(b, 8) || a == b || out(years, 10)) {
            return finding(BEYOND);
        }
        int took = roads[Math.min(a, b)][Math.max(a, b)];
        roads[Math.min(a, b)][Math.max(a, b)] = years;
        return took;
    }

    int shut(int place, int year) {
        if (out(place, 8) || out(year, 1001)) {
            return finding(BEYOND);
        }
        int was = shut[place];
        shut[place] = year;
        return was;
    }

    int wave(int law, int place, int year) {
        if (out(law, laws.size()) || out(place, 8) || out(year, 1000)) {
            return finding(BEYOND);
        }
        if (waves.size() == 8) {
            return finding(FULL);
        }
        waves.add(new Wave(law, place, year));
        return waves.size() - 1;
    }

    /** The YEAR in which a WAVE comes, year by year from its beginning, or -1. */
    private int arrival(Wave wave, int place) {
        int[] came = new int[8];
        Arrays.fill(came, -1);
        for (int year = wave.year; year <= wave.year + 9 * 8; year++) {
            for (int p = 0; p < 8; p++) {
                boolean reaches = p == wave.place && year == wave.year;
                for (int q = 0; q < 8; q++) {
                    int years = roads[Math.min(p, q)][Math.max(p, q)];
                    reaches |= years > 0 && came[q] != -1 && came[q] + years == year;
                }
                boolean isOpen = shut[p] == 1000 || year < shut[p];
                if (reaches && isOpen && came[p] == -1) {
                    came[p] = year;
                }
            }
        }
        return came[place];
    }

    int comes(int wave, int place) {
        if (out(wave, waves.size()) || out(place, 8)) {
            return finding(BEYOND);
        }
        int year = arrival(waves.get(wave), place);
        return year == -1 ? finding(NONE) : year;
    }

    private int[] arrivalsAt(int place) {
        int[] years = new int[waves.size()];
        for (int w = 0; w < years.length; w++) {
            years[w] = arrival(waves.get(w), place);
        }
        return years;
    }

    private String spoken(int[] arrivals, int year, String word) {
        List<Integer> came = new ArrayList<>();
        for (int w = 0; w < arrivals.length; w++) {
            if (arrivals[w] != -1 && arrivals[w] <= year) {
                came.add(w);
            }
        }
        came.sort((v, w) -> arrivals[v] != arrivals[w] ? arrivals[v] - arrivals[w] : v - w);
        for (int w : came) {
            word = over(laws.get(waves.get(w).law), word);
        }
        return word;
    }

    int speech(int place, int year, int word) {
        if (out(place, 8) || out(year, 1000) || word(word) == null) {
            return finding(BEYOND);
        }
        return number(spoken(arrivalsAt(place), year, word(word)));
    }

    int list(int word) {
        if (word(word) == null) {
            return finding(BEYOND);
        }
        if (list.size() == 12) {
            return finding(FULL);
        }
        list.add(word(word));
        return list.size();
    }

    private List<String> spokenList(int[] arrivals, int year) {
        List<String> words = new ArrayList<>();
        for (String word : list) {
            words.add(spoken(arrivals, year, word));
        }
        return words;
    }

    int speeches(int year) {
        if (out(year, 1000)) {
            return finding(BEYOND);
        }
        Set<List<String>> all = new HashSet<>();
        for (int p = 0; p < 8; p++) {
            all.add(spokenList(arrivalsAt(p), year));
        }
        return all.size();
    }

    int parted(int a, int b) {
        if (out(a, 8) || out(b, 8)) {
            return finding(BEYOND);
        }
        int[] arrivalsA = arrivalsAt(a);
        int[] arrivalsB = arrivalsAt(b);
        for (int year = 0; year < 1000; year++) {
            if (!spokenList(arrivalsA, year).equals(spokenList(arrivalsB, year))) {
                return year;
            }
        }
        return finding(NONE);
    }

    int sheet(int s, int bits, int n) {
        if (out(s, 4) || bits != 0 && bits != 8 && bits != 16 && bits != 32) {
            return finding(BEYOND);
        }
        if (n < 0) {
            return finding(SIZE);
        }
        if (n > 12) {
            return finding(BEYOND);
        }
        sheets[s] = bits == 0 ? null : new long[n];
        sheetBits[s] = bits;
        return bits == 0 ? 0 : n;
    }

    int write(int s, int i, int v) {
        if (out(s, 4)) {
            return finding(BEYOND);
        }
        if (sheets[s] == null) {
            return finding(MISSING);
        }
        if (out(i, sheets[s].length)) {
            return finding(BEYOND);
        }
        int was = (int) sheets[s][i];
        long range = 1L << sheetBits[s];
        long low = Math.floorMod((long) v, range);
        sheets[s][i] = low >= range / 2 ? low - range : low;
        return was;
    }

    int copy(int s, int from, int t, int to, int n) {
        if (out(s, 4) || out(t, 4)) {
            return finding(BEYOND);
        }
        if (sheets[s] == null || sheets[t] == null) {
            return finding(MISSING);
        }
        if (sheetBits[s] != sheetBits[t]) {
            return finding(KIND);
        }
        if (from < 0 || to < 0 || n < 0 || 0L + from + n > sheets[s].length || 0L + to + n > sheets[t].length) {
            return finding(BEYOND);
        }
        long[] were = sheets[s].clone();
        for (int i = 0; i < n; i++) {
            sheets[t][to + i] = were[from + i];
        }
        return n;
    }

    int read(int s) {
        if (out(s, 4)) {
            return finding(BEYOND);
        }
        if (sheets[s] == null) {
            return finding(MISSING);
        }
        list.clear();
        for (long number : sheets[s]) {
            if (word((int) number) == null) {
                break;
            }
            list.add(word((int) number));
        }
        return list.size();
    }

    int told(int what) {
        int vowelBits = 0;
        for (char c : vowels.toCharArray()) {
            vowelBits |= 1 << (c - 'a');
        }
        int[] all = {laws.size(), tongues.size(), matches, finds.size(), pairs.size(), waves.size(), list.size(),
            tape.length(), vowelBits, findings};
        return out(what, all.length) ? finding(BEYOND) : all[what];
    }
}

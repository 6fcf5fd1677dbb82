import java.lang.reflect.Method;
import java.lang.reflect.Modifier;
import java.util.ArrayList;
import java.util.Arrays;
import java.util.Comparator;
import java.util.List;
import java.util.Random;

/**
 * Runs of calls drawn by chance (from fixed seeds), each held against PlainTongues. A run has a theme, so that it gets
 * deep into one part of the document. Arguments: a factor for how many runs are made, and the first seed.
 */
public final class RandomRunsTest {

    private static final int MOST_CALLS = 512;
    private static final String[] THEMES = {"laws", "tongues", "matches", "pairs", "land", "sheets", "all", "wild"};
    private static final int[] RUNS = {60, 20, 25, 40, 120, 80, 40, 60};

    private final Random random;
    private final DaughterTongues is = new DaughterTongues();
    private final PlainTongues due = new PlainTongues();
    private final List<String> calls = new ArrayList<>();
    private boolean isWrong;
    private int year;

    private RandomRunsTest(long seed) {
        random = new Random(seed);
    }

    public static void main(String[] args) {
        int factor = args.length > 0 ? Integer.parseInt(args[0]) : 1;
        long seed = args.length > 1 ? Long.parseLong(args[1]) : 1;
        int wrong = 0;
        for (int theme = 0; theme < THEMES.length; theme++) {
            for (int i = 0; i < RUNS[theme] * factor; i++) {
                RandomRunsTest test = new RandomRunsTest(seed * 1000000 + theme * 100000 + i);
                test.playTheme(THEMES[theme]);
                if (test.isWrong) {
                    wrong++;
                    System.out.println("theme " + THEMES[theme] + ", run " + i + ":");
                    System.out.println("  " + String.join("\n  ", test.calls));
                }
            }
        }
        System.out.println(wrong == 0 ? "all random runs are as due" : wrong + " random runs are not as due");
        System.exit(wrong == 0 ? 0 : 1);
    }

    private int below(int n) {
        return random.nextInt(n);
    }

    private boolean chance(int percent) {
        return below(100) < percent;
    }

    private void check(String call, int got, int want) {
        calls.add(call + " answered " + got);
        if (got != want) {
            calls.add("  due is " + want);
            isWrong = true;
        }
    }

    private boolean goesOn() {
        return !isWrong && calls.size() < MOST_CALLS - 40;
    }

    private void playTheme(String theme) {
        switch (theme) {
            case "laws":
                playLaws();
                break;
            case "tongues":
                playTongues();
                break;
            case "matches":
                playMatches();
                break;
            case "pairs":
                playPairs();
                break;
            case "land":
                playLand();
                break;
            case "sheets":
                playSheets();
                break;
            case "wild":
                playWild();
                break;
            default:
                playAll();
        }
        for (int what = -1; what <= 10 && !isWrong; what++) {
            check("told(" + what + ")", is.told(what), due.told(what));
        }
    }

    // ---- arguments

    private int edge() {
        int[] edges = {-1, -2, 0, 1, 7, 8, 1000, Integer.MAX_VALUE, Integer.MIN_VALUE, 5764801};
        return edges[below(edges.length)];
    }

    /** A number from 0 on, mostly below n. */
    private int index(int n) {
        if (chance(3)) {
            return edge();
        }
        return chance(5) ? n : below(Math.max(1, n));
    }

    private int wordOf(int most) {
        int length = below(most + 1);
        int number = 0;
        int sounds = 2 + below(5);
        for (int i = 0; i < length; i++) {
            number = 7 * number + 1 + below(sounds);
        }
        return number;
    }

    private int word() {
        if (chance(3)) {
            return edge();
        }
        return chance(3) ? 7 * wordOf(3) : wordOf(8);
    }

    private int aYear() {
        return chance(5) ? edge() : below(40);
    }

    // ---- single calls

    private String randomText() {
        String from = String.valueOf("abcdefVC".charAt(below(8)));
        String to = chance(20) ? "-" : String.valueOf((char) ('a' + below(6)));
        if (chance(25) && !to.equals("-")) {
            to += chance(50) && from.compareTo("a") >= 0 ? from : String.valueOf((char) ('a' + below(6)));
        }
        if (chance(10)) {
            to = from.compareTo("a") >= 0 ? from + from : to;
        }
        String text = from + ">" + to;
        text += chance(50) ? "/" + place() : "";
        text += chance(30) ? "!" + place() : "";
        if (chance(12)) {
            char[] letters = text.toCharArray();
            letters[below(letters.length)] = "abVC#_/!->x".charAt(below(11));
            text = new String(letters);
        }
        if (chance(5)) {
            text = text.substring(0, below(text.length() + 1));
        }
        return chance(5) ? text + "ab#_!/-".charAt(below(7)) : text;
    }

    private String place() {
        String marks = "abcdefVVCC##";
        String ahead = chance(50) ? String.valueOf(marks.charAt(below(12))) : "";
        String behind = chance(50) ? String.valueOf(marks.charAt(below(12))) : "";
        return ahead + "_" + behind;
    }

    private void callFeed(String bytes) {
        long w = chance(30) ? random.nextLong() : 0;
        int n = bytes.length();
        for (int i = 0; i < n; i++) {
            w = w & ~(255L << 8 * i) | (long) bytes.charAt(i) << 8 * i;
        }
        check("feed(" + w + ", " + n + ")", is.feed(w, n), due.feed(w, n));
    }

    private void callLaw() {
        String text = randomText();
        for (int i = 0; i < text.length(); i += 8) {
            callFeed(text.substring(i, Math.min(text.length(), i + 8)));
        }
        check("law() of " + text, is.law(), due.law());
    }

    private void callVowel() {
        int sound = index(6);
        boolean vowel = chance(50);
        check("vowel(" + sound + ", " + vowel + ")", is.vowel(sound, vowel), due.vowel(sound, vowel));
    }

    private void callRun() {
        int law = index(due.told(0));
        int word = word();
        check("run(" + law + ", " + word + ")", is.run(law, word), due.run(law, word));
        check("holds(" + law + ", " + word + ")", is.holds(law, word), due.holds(law, word));
    }

    private void callAbout() {
        int law = index(due.told(0));
        int what = index(9);
        int kind = index(4);
        check("about(" + law + ", " + what + ")", is.about(law, what), due.about(law, what));
        check("as(" + law + ", " + kind + ")", is.as(law, kind), due.as(law, kind));
    }

    private void callTongue() {
        int above = index(due.told(1) + 1) - 1;
        check("tongue(" + above + ")", is.tongue(above), due.tongue(above));
    }

    private void callTake() {
        int tongue = index(due.told(1));
        int law = index(due.told(0));
        check("take(" + tongue + ", " + law + ")", is.take(tongue, law), due.take(tongue, law));
    }

    private void callLeaveOrSwap() {
        int tongue = index(due.told(1));
        int i = index(3);
        if (chance(30)) {
            check("leave(" + tongue + ")", is.leave(tongue), due.leave(tongue));
        } else {
            check("swap(" + tongue + ", " + i + ")", is.swap(tongue, i), due.swap(tongue, i));
        }
    }

    private void callScript() {
        int tongue = index(due.told(1));
        int sound = index(6);
        int sign = index(7) - 1;
        String call = "script(" + tongue + ", " + sound + ", " + sign + ")";
        check(call, is.script(tongue, sound, sign), due.script(tongue, sound, sign));
    }

    private void callForm() {
        int tongue = index(due.told(1) + 1) - 1;
        int word = word();
        int i = index(6);
        check("form(" + tongue + ", " + word + ")", is.form(tongue, word), due.form(tongue, word));
        check("written(" + tongue + ", " + word + ")", is.written(tongue, word), due.written(tongue, word));
        check("own(" + tongue + ", " + i + ")", is.own(tongue, i), due.own(tongue, i));
    }

    private void callOrder() {
        int tongue = index(due.told(1));
        int i = index(3);
        check("order(" + tongue + ", " + i + ")", is.order(tongue, i), due.order(tongue, i));
    }

    /** What the plain one would answer, uncounted; 0 for a finding. */
    private int peekWritten(int tongue, int word) {
        int before = due.findings;
        int answer = due.written(tongue, word);
        due.findings = before;
        return Math.max(0, answer);
    }

    private int peekRun(int law, int word) {
        int before = due.findings;
        int answer = due.run(law, word);
        due.findings = before;
        return Math.max(0, answer);
    }

    private void callBack() {
        int tongue = index(due.told(1));
        int number = chance(80) ? peekWritten(tongue, wordOf(5)) : word();
        int i = chance(70) ? below(4) : index(300);
        check("back(" + tongue + ", " + number + ")", is.back(tongue, number), due.back(tongue, number));
        check("stem(" + tongue + ", " + number + ", " + i + ")", is.stem(tongue, number, i), due.stem(tongue, number, i));
    }

    private void callFind(int stem) {
        int match = index(due.told(2));
        int tongue = index(due.told(1));
        int number = chance(75) ? peekWritten(tongue, stem) : word();
        number = chance(8) ? -1 : number;
        int when = chance(5) ? aYear() : year;
        year = Math.min(999, year + below(3));
        String call = "find(" + match + ", " + tongue + ", " + number + ", " + when + ")";
        check(call, is.find(match, tongue, number, when), due.find(match, tongue, number, when));
    }

    private int askedYear() {
        return chance(8) ? aYear() : Math.max(0, year - below(8));
    }

    private void callKnown() {
        int m = index(due.told(2));
        int t = index(due.told(1));
        int y = askedYear();
        check("known(" + m + ", " + t + ", " + y + ")", is.known(m, t, y), due.known(m, t, y));
    }

    private void callMothers() {
        int m = index(due.told(2));
        int y = askedYear();
        int i = chance(70) ? below(3) : index(10000);
        int place = index(5);
        check("mothers(" + m + ", " + y + ")", is.mothers(m, y), due.mothers(m, y));
        check("mother(" + m + ", " + y + ", " + i + ")", is.mother(m, y, i), due.mother(m, y, i));
        check("doubt(" + m + ", " + y + ", " + place + ")", is.doubt(m, y, place), due.doubt(m, y, place));
    }

    private void callBest() {
        int m = index(due.told(2));
        int y = askedYear();
        check("best(" + m + ", " + y + ")", is.best(m, y), due.best(m, y));
        int breakers = due.breakers(m, y);
        check("breakers(" + m + ", " + y + ")", is.breakers(m, y), breakers);
        for (int t = 0; t < 8 && breakers > 0; t++) {
            if ((breakers >> t & 1) != 0 || chance(10)) {
                check("lent(" + m + ", " + y + ", " + t + ")", is.lent(m, y, t), due.lent(m, y, t));
            }
        }
        int t = index(due.told(1));
        check("lent(" + m + ", " + y + ", " + t + ")", is.lent(m, y, t), due.lent(m, y, t));
    }

    private void callLeans() {
        int law = index(due.told(0));
        int y = askedYear();
        check("leans(" + law + ", " + y + ")", is.leans(law, y), due.leans(law, y));
    }

    private void callPair() {
        int from = word();
        int to = word();
        if (chance(85)) {
            to = peekRun(index(due.told(0)), from);
            to = chance(50) ? peekRun(index(due.told(0)), to) : to;
        }
        check("pair(" + from + ", " + to + ")", is.pair(from, to), due.pair(from, to));
    }

    private void callFewest() {
        check("fewest()", is.fewest(), due.fewest());
        for (int i = 0; i < 2; i++) {
            for (int what = 0; what < 3; what++) {
                check("simple(" + i + ", " + what + ")", is.simple(i, what), due.simple(i, what));
            }
        }
        int i = index(3);
        int what = index(3);
        check("simple(" + i + ", " + what + ")", is.simple(i, what), due.simple(i, what));
        int p = index(due.told(4));
        check("proof(" + p + ")", is.proof(p), due.proof(p));
    }

    private void callRoad() {
        int a = index(8);
        int b = index(8);
        int years = index(10);
        check("road(" + a + ", " + b + ", " + years + ")", is.road(a, b, years), due.road(a, b, years));
    }

    private void callShut() {
        int place = index(8);
        int from = chance(40) ? 1000 : chance(10) ? 990 + below(13) : aYear();
        check("shut(" + place + ", " + from + ")", is.shut(place, from), due.shut(place, from));
    }

    private void callWave() {
        int law = index(due.told(0));
        int place = index(8);
        int begin = chance(10) ? 980 + below(22) : aYear();
        String call = "wave(" + law + ", " + place + ", " + begin + ")";
        check(call, is.wave(law, place, begin), due.wave(law, place, begin));
    }

    private void callComes() {
        int w = index(due.told(5));
        int p = index(8);
        check("comes(" + w + ", " + p + ")", is.comes(w, p), due.comes(w, p));
    }

    private void callSpeech() {
        int p = index(8);
        int q = index(8);
        int y = chance(10) ? 980 + below(22) : aYear();
        int word = word();
        check("speech(" + p + ", " + y + ", " + word + ")", is.speech(p, y, word), due.speech(p, y, word));
        check("speeches(" + y + ")", is.speeches(y), due.speeches(y));
        check("parted(" + p + ", " + q + ")", is.parted(p, q), due.parted(p, q));
    }

    private void callList() {
        int word = word();
        check("list(" + word + ")", is.list(word), due.list(word));
    }

    private void callSheet() {
        int[] sizes = {0, 8, 16, 32, 8, 16, 32, 32, 7, -8};
        int s = index(4);
        int bits = sizes[below(sizes.length)];
        int n = chance(10) ? edge() : below(15) - 1;
        check("sheet(" + s + ", " + bits + ", " + n + ")", is.sheet(s, bits, n), due.sheet(s, bits, n));
    }

    private void callWrite() {
        int s = index(4);
        int i = index(8);
        int v = chance(20) ? random.nextInt() : chance(20) ? below(70000) - 200 : word();
        check("write(" + s + ", " + i + ", " + v + ")", is.write(s, i, v), due.write(s, i, v));
    }

    private void callCopy() {
        int s = index(4);
        int t = chance(30) ? s : index(4);
        int from = chance(90) ? below(6) : edge();
        int to = chance(90) ? below(6) : edge();
        int n = chance(90) ? below(8) : edge();
        String call = "copy(" + s + ", " + from + ", " + t + ", " + to + ", " + n + ")";
        check(call, is.copy(s, from, t, to, n), due.copy(s, from, t, to, n));
    }

    private void callRead() {
        int s = index(4);
        check("read(" + s + ")", is.read(s), due.read(s));
        check("told(6)", is.told(6), due.told(6));
        int y = aYear();
        check("speeches(" + y + ")", is.speeches(y), due.speeches(y));
    }

    // ---- themes

    private void playLaws() {
        while (goesOn()) {
            int which = below(10);
            if (which < 2) {
                callLaw();
            } else if (which == 2 && chance(30)) {
                callVowel();
            } else if (which == 3) {
                callAbout();
            } else if (which == 4 && chance(10)) {
                int n = edge();
                check("feed(0, " + n + ")", is.feed(0, n), due.feed(0, n));
            } else {
                callRun();
            }
        }
    }

    private void makeTongues(int laws, int tongues, int takes) {
        for (int i = 0; i < laws && goesOn(); i++) {
            callLaw();
        }
        for (int i = 0; i < tongues && goesOn(); i++) {
            callTongue();
        }
        for (int i = 0; i < takes && goesOn(); i++) {
            callTake();
        }
    }

    private void playTongues() {
        makeTongues(4 + below(8), 2 + below(5), 4 + below(16));
        for (int i = 0; i < 60 && goesOn(); i++) {
            switch (below(10)) {
                case 0:
                    callTake();
                    break;
                case 1:
                    callLeaveOrSwap();
                    break;
                case 2:
                    callScript();
                    break;
                case 3:
                    callOrder();
                    break;
                case 4:
                case 5:
                    callBack();
                    break;
                case 6:
                    callVowel();
                    break;
                default:
                    callForm();
            }
        }
        for (int i = 0; i < 9; i++) {
            callTongue();
            callTake();
        }
    }

    private void playMatches() {
        makeTongues(3 + below(5), 2 + below(4), 3 + below(8));
        for (int i = 0; i < 1 + below(4); i++) {
            check("match()", is.match(), due.match());
        }
        int stem = Math.max(1, wordOf(5));
        for (int i = 0; i < 45 && goesOn(); i++) {
            stem = chance(15) ? Math.max(1, wordOf(5)) : stem;
            int which = below(16);
            if (which < 6) {
                callFind(stem);
            } else if (which < 8) {
                callKnown();
            } else if (which < 10) {
                callMothers();
            } else if (which < 12) {
                callBest();
            } else if (which < 14) {
                callLeans();
            } else if (which == 14) {
                callScript();
            } else {
                callLeaveOrSwap();
            }
        }
    }

    private void playPairs() {
        for (int i = 0; i < 6; i++) {
            callLaw();
        }
        for (int i = 0; i < 25 && goesOn(); i++) {
            int which = below(10);
            if (which < 4) {
                callPair();
            } else if (which < 5) {
                check("unpair()", is.unpair(), due.unpair());
            } else if (which < 6) {
                callVowel();
            } else {
                callFewest();
            }
        }
    }

    private void playLand() {
        for (int i = 0; i < 5; i++) {
            callLaw();
        }
        for (int i = 0; i < 100 && goesOn(); i++) {
            int which = below(16);
            if (which < 5) {
                callRoad();
            } else if (which < 6) {
                callShut();
            } else if (which < 8) {
                callWave();
            } else if (which < 11) {
                callComes();
            } else if (which < 14) {
                callSpeech();
            } else if (which < 15) {
                callList();
            } else if (chance(20)) {
                callVowel();
            }
        }
    }

    private void playSheets() {
        for (int i = 0; i < 5; i++) {
            callLaw();
        }
        while (goesOn()) {
            int which = below(20);
            if (which < 2) {
                callSheet();
            } else if (which < 10) {
                callWrite();
            } else if (which < 15) {
                callCopy();
            } else if (which < 17) {
                callRead();
            } else if (which < 18) {
                callWave();
            } else {
                callList();
            }
        }
    }

    /** Any method with any arguments, also those that no other theme would put together. */
    private void playWild() {
        Method[] methods = PlainTongues.class.getDeclaredMethods();
        List<Method> face = new ArrayList<>();
        for (Method method : methods) {
            if (!Modifier.isPrivate(method.getModifiers()) && !Modifier.isStatic(method.getModifiers())) {
                face.add(method);
            }
        }
        face.sort(Comparator.comparing(Method::getName));
        while (goesOn()) {
            if (chance(15)) {
                callLaw();
            } else if (chance(10)) {
                callTongue();
            } else {
                callWild(face.get(below(face.size())));
            }
        }
    }

    private void callWild(Method plain) {
        Class<?>[] types = plain.getParameterTypes();
        Object[] arguments = new Object[types.length];
        for (int i = 0; i < types.length; i++) {
            if (types[i] == boolean.class) {
                arguments[i] = chance(50);
            } else if (types[i] == long.class) {
                arguments[i] = random.nextLong();
            } else {
                arguments[i] = chance(70) ? below(4) : chance(60) ? below(66) - 2 : edge();
            }
        }
        try {
            Method real = DaughterTongues.class.getMethod(plain.getName(), types);
            String call = plain.getName() + Arrays.toString(arguments);
            check(call, (int) real.invoke(is, arguments), (int) plain.invoke(due, arguments));
        } catch (ReflectiveOperationException e) {
            throw new IllegalStateException(e);
        }
    }

    private void playAll() {
        makeTongues(3 + below(22), 1 + below(8), below(12));
        for (int i = 0; i < 60 && goesOn(); i++) {
            switch (below(14)) {
                case 0:
                    callLaw();
                    break;
                case 1:
                    callVowel();
                    break;
                case 2:
                    callTake();
                    break;
                case 3:
                    check("match()", is.match(), due.match());
                    break;
                case 4:
                    callFind(wordOf(5));
                    break;
                case 5:
                    callBest();
                    break;
                case 6:
                    callPair();
                    break;
                case 7:
                    callFewest();
                    break;
                case 8:
                    callWave();
                    break;
                case 9:
                    callSpeech();
                    break;
                case 10:
                    callWrite();
                    break;
                case 11:
                    callForm();
                    break;
                case 12:
                    callAbout();
                    break;
                default:
                    callSheet();
            }
        }
    }
}

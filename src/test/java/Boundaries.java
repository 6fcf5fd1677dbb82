import java.util.function.IntSupplier;
import java.util.function.IntUnaryOperator;

/** What the tests of boundary cases share; each test has an object of its own. WORDS and LAWS are written as texts. */
abstract class Boundaries {

    static final int BEYOND = -1000001;
    static final int FULL = -1000002;
    static final int KIND = -1000003;
    static final int NONE = -1000004;
    static final int STATE = -1000005;
    static final int MISSING = -1000006;
    static final int SIZE = -1000007;
    static final int WRONG = -1000100;
    static final int MIN = Integer.MIN_VALUE;
    static final int MAX = Integer.MAX_VALUE;

    /** The number of the WORD ffffffff: no other WORD has a greater one. */
    static final int LAST_WORD = 5764800;
    /** What the number of aaaaaaaaa would be, if there were WORDS of nine SOUNDS. */
    static final int NINE_SOUNDS = 6725601;
    static final int ALL_STEMS = 9330;
    static final int LAST_STEM = 16806;
    /** Below 0; with what is no SOUND at the end or in the middle; of more than 8 SOUNDS. */
    static final int[] NO_WORDS = {MIN, -1, 7, 50, 49, 56, LAST_WORD + 1, NINE_SOUNDS, MAX};

    DaughterTongues x = new DaughterTongues();
    /** What test is made, told with each wrong answer. */
    String title = "";
    int asked;
    int wrong;

    final void due(int want, int got) {
        asked++;
        if (got != want) {
            wrong++;
            StackTraceElement line = lineOfTest();
            System.out.println(title + " (" + line.getFileName() + ":" + line.getLineNumber() + "): answered " + got
                + ", due is " + want);
        }
    }

    private static StackTraceElement lineOfTest() {
        StackTraceElement[] lines = new Throwable().getStackTrace();
        int i = 0;
        while (i < lines.length - 1 && lines[i].getClassName().equals(Boundaries.class.getName())) {
            i++;
        }
        return lines[i];
    }

    final int[] tellAll() {
        int[] all = new int[10];
        for (int what = 0; what < 10; what++) {
            all[what] = x.told(what);
        }
        return all;
    }

    final void dueTold(int[] all) {
        for (int what = 0; what < 10; what++) {
            due(all[what], x.told(what));
        }
    }

    /** A call that answers a finding is counted, and changes nothing else that can be told. */
    final void refuse(int finding, IntSupplier call) {
        int[] all = tellAll();
        due(finding, call.getAsInt());
        all[9]++;
        dueTold(all);
    }

    final void refuseEach(int finding, int[] arguments, IntUnaryOperator call) {
        int[] all = tellAll();
        for (int argument : arguments) {
            due(finding, call.applyAsInt(argument));
        }
        all[9] += arguments.length;
        dueTold(all);
    }

    /** Only 0 to n - 1 are there. */
    final void refuseOutside(int n, IntUnaryOperator call) {
        refuseEach(BEYOND, new int[] {MIN, -1, n, MAX}, call);
    }

    final void refuseNoWords(IntUnaryOperator call) {
        refuseEach(BEYOND, NO_WORDS, call);
    }

    static int w(String word) {
        int number = 0;
        for (char c : word.toCharArray()) {
            number = 7 * number + (c - 'a') + 1;
        }
        return number;
    }

    /** Feeds up to eight bytes a call: what the last one answers. */
    final int feed(String text) {
        int answer = 0;
        for (int i = 0; i < text.length(); i += 8) {
            int n = Math.min(8, text.length() - i);
            long bytes = 0;
            for (int b = 0; b < n; b++) {
                bytes |= (long) text.charAt(i + b) << 8 * b;
            }
            answer = x.feed(bytes, n);
        }
        return answer;
    }

    final int law(String text) {
        feed(text);
        return x.law();
    }

    final void laws(String... texts) {
        for (String text : texts) {
            due(x.told(0), law(text));
        }
    }

    /** A new TONGUE under another one with own LAWS. */
    final int tongue(int above, int... laws) {
        int tongue = x.tongue(above);
        for (int i = 0; i < laws.length; i++) {
            due(i + 1, x.take(tongue, laws[i]));
        }
        return tongue;
    }

    final void matches(int n) {
        for (int i = 0; i < n; i++) {
            x.match();
        }
    }

    /** A SCRIPT in which only one SOUND has a SIGN, its own (-1: none has). */
    final void hideAllBut(int tongue, int kept) {
        for (int sound = 0; sound < 6; sound++) {
            x.script(tongue, sound, sound == kept ? sound : -1);
        }
    }

    final void dueRow(int tongue, int... laws) {
        for (int i = 0; i < laws.length; i++) {
            due(laws[i], x.own(tongue, i));
        }
    }
}

/**
 * Each promise of the document by hand: ordinary calls, the edges that it names, and wrong calls. WORDS are written as
 * texts here, and LAWS as the document writes them.
 */
public final class PromisesTest {

    private static final int BEYOND = -1000001;
    private static final int FULL = -1000002;
    private static final int KIND = -1000003;
    private static final int NONE = -1000004;
    private static final int STATE = -1000005;
    private static final int MISSING = -1000006;
    private static final int SIZE = -1000007;
    private static final int WRONG = -1000100;
    private static final int MIN = Integer.MIN_VALUE;
    private static final int MAX = Integer.MAX_VALUE;
    /** The number of the longest WORD of the last SOUND: seven to the eighth power, less 1. */
    private static final int LAST_WORD = 5764800;
    private static final int ALL_STEMS = 9330;

    private static int promise;
    private static int asked;
    private static int wrong;

    private DaughterTongues x;

    private PromisesTest(int number) {
        promise = number;
        asked = 0;
        x = new DaughterTongues();
    }

    public static void main(String[] args) {
        promises1To8();
        promises9To19();
        promises20To29();
        promises30To34();
        promises35To42();
        promises43To47();
        System.out.println(wrong == 0 ? "all promises are kept" : wrong + " answers break promises");
        System.exit(wrong == 0 ? 0 : 1);
    }

    private static void promises1To8() {
        new PromisesTest(1).newObject();
        new PromisesTest(2).vowel();
        new PromisesTest(3).feed();
        new PromisesTest(4).law();
        new PromisesTest(4).lawFull();
        new PromisesTest(5).as();
        new PromisesTest(6).about();
        new PromisesTest(7).run();
        new PromisesTest(7).runPlaces();
        new PromisesTest(8).holds();
    }

    private static void promises9To19() {
        new PromisesTest(9).tongue();
        new PromisesTest(10).take();
        new PromisesTest(11).leave();
        new PromisesTest(12).swap();
        new PromisesTest(13).own();
        new PromisesTest(14).form();
        new PromisesTest(15).order();
        new PromisesTest(16).script();
        new PromisesTest(17).written();
        new PromisesTest(18).back();
        new PromisesTest(18).backIsFresh();
        new PromisesTest(19).stem();
    }

    private static void promises20To29() {
        new PromisesTest(20).match();
        new PromisesTest(21).find();
        new PromisesTest(21).findFull();
        new PromisesTest(22).known();
        new PromisesTest(23).mothers();
        new PromisesTest(24).mother();
        new PromisesTest(25).doubt();
        new PromisesTest(26).best();
        new PromisesTest(27).breakers();
        new PromisesTest(28).lent();
        new PromisesTest(28).lentBehind();
        new PromisesTest(29).leans();
    }

    private static void promises30To34() {
        new PromisesTest(30).pair();
        new PromisesTest(31).unpair();
        new PromisesTest(32).fewest();
        new PromisesTest(33).simple();
        new PromisesTest(33).simpleOrder();
        new PromisesTest(34).proof();
    }

    private static void promises35To42() {
        new PromisesTest(35).road();
        new PromisesTest(36).shut();
        new PromisesTest(37).wave();
        new PromisesTest(38).comes();
        new PromisesTest(38).comesPastShut();
        new PromisesTest(39).speech();
        new PromisesTest(40).list();
        new PromisesTest(41).speeches();
        new PromisesTest(42).parted();
    }

    private static void promises43To47() {
        new PromisesTest(43).sheet();
        new PromisesTest(44).write();
        new PromisesTest(45).copy();
        new PromisesTest(46).read();
        new PromisesTest(47).told();
    }

    // ---- tools

    private static void due(int want, int got) {
        asked++;
        if (got != want) {
            wrong++;
            System.out.println("promise " + promise + ", question " + asked + ": answered " + got + ", due is " + want);
        }
    }

    private static int w(String word) {
        int number = 0;
        for (char c : word.toCharArray()) {
            number = 7 * number + (c - 'a') + 1;
        }
        return number;
    }

    private int readLaw(String text) {
        for (char c : text.toCharArray()) {
            x.feed(c, 1);
        }
        return x.law();
    }

    private void readLaws(String... texts) {
        for (String text : texts) {
            if (readLaw(text) < 0) {
                due(0, -1);
            }
        }
    }

    /** A TONGUE under another one, with own LAWS. */
    private int makeTongue(int above, int... laws) {
        int tongue = x.tongue(above);
        for (int law : laws) {
            x.take(tongue, law);
        }
        return tongue;
    }

    private void dueRun(String law, String word, String want) {
        due(w(want), x.run(readLaw(law), w(word)));
    }

    // ---- sounds and laws

    private void newObject() {
        for (int what = 0; what <= 7; what++) {
            due(0, x.told(what));
        }
        due(17, x.told(8));
        due(0, x.told(9));
        due(0, x.fewest());
        due(1, x.speeches(0));
        for (int p = 0; p < 8; p++) {
            due(1000, x.shut(p, 1000));
            due(0, p == 0 ? 0 : x.road(0, p, 0));
        }
        for (int s = 0; s < 4; s++) {
            due(MISSING, x.read(s));
        }
        due(BEYOND, x.about(0, 0));
        due(BEYOND, x.written(0, 0));
        due(BEYOND, x.mothers(0, 0));
        due(BEYOND, x.comes(0, 0));
        due(BEYOND, x.proof(0));
    }

    private void vowel() {
        readLaws("V>-", "C>-");
        due(w("bcdf"), x.run(0, w("abcdef")));
        due(1, x.vowel(0, true));
        due(1, x.vowel(0, false));
        due(0, x.vowel(0, false));
        due(0, x.vowel(5, true));
        due(1, x.vowel(5, true));
        due(48, x.told(8));
        due(w("abcd"), x.run(0, w("abcdef")));
        due(w("ef"), x.run(1, w("abcdef")));
        due(BEYOND, x.vowel(-1, true));
        due(BEYOND, x.vowel(6, false));
        due(BEYOND, x.vowel(MIN, false));
        due(BEYOND, x.vowel(32, false));
        due(48, x.told(8));
    }

    private void feed() {
        due(BEYOND, x.feed(0, 0));
        due(BEYOND, x.feed(0, 9));
        due(BEYOND, x.feed(0, -1));
        due(BEYOND, x.feed(0, MAX));
        due(0, x.told(7));
        // all but the three lowest bytes of this are no part of the text
        long text = 'a' | '>' << 8 | 'b' << 16 | 0x7878787878L << 24;
        due(3, x.feed(text, 3));
        due(0, x.law());
        due(8, x.feed(-1L, 8));
        due(WRONG, x.law());
        for (int i = 1; i <= 5; i++) {
            due(8 * i, x.feed(0, 8));
        }
        due(FULL, x.feed(0, 1));
        due(40, x.told(7));
        x.law();
        due(7, x.feed(0, 7));
        for (int i = 1; i <= 4; i++) {
            x.feed(0, 8);
        }
        due(FULL, x.feed(0, 2));
        due(BEYOND, x.feed(0, 9));
        due(40, x.feed(0, 1));
    }

    private void law() {
        String[] good = {"a>b", "f>-", "V>a", "C>ab", "a>b/_", "a>b!_", "a>b/_!_", "b>c/V_V", "V>-/_#!c_", "C>b/#_",
            "a>a", "a>b/#_#!V_C", "d>ef/_a", "a>b!#_"};
        for (int i = 0; i < good.length; i++) {
            due(i, readLaw(good[i]));
        }
        String[] bad = {"", "x", "#>a", "a", "ax", "a>", "a>V", "a>#", "a>-b", "a>abc", "a>b/", "a>b/a", "a>b/ab",
            "a>b/_ab", "a>b/__", "a>b!", "a>b!V", "a>b!_/_", "a>b/_!a_b!", "a>b/!_", "a>b_", "A>b", "g>a", "a>g",
            "a>-/_-", " a>b", "a>b "};
        int[] place = {0, 0, 0, 1, 1, 2, 2, 2, 3, 4, 4, 5, 5, 6, 5, 4, 5, 5, 9, 4, 3, 0, 0, 2, 5, 0, 3};
        for (int i = 0; i < bad.length; i++) {
            due(WRONG - place[i], readLaw(bad[i]));
            due(0, x.told(7));
        }
        due(good.length, x.told(0));
        x.feed(0x623e61L + (200L << 24), 4);
        due(WRONG - 3, x.law());
    }

    private void lawFull() {
        for (int i = 0; i < 24; i++) {
            due(i, readLaw("a>b"));
        }
        due(FULL, readLaw("a>b"));
        due(0, x.told(7));
        due(WRONG - 2, readLaw("a>"));
        due(24, x.told(0));
        due(w("b"), x.run(23, w("a")));
        due(BEYOND, x.run(24, w("a")));
    }

    private void as() {
        readLaws("a>b", "a>-", "a>ab", "a>aa", "V>aa", "b>aa");
        int[][] isOf = {{0, 0}, {1, 0}, {1, 1}, {2, 0}, {2, 2}, {3, 0}, {3, 2}, {3, 3}, {4, 2}, {5, 2}};
        for (int[] lawKind : isOf) {
            due(lawKind[0], x.as(lawKind[0], lawKind[1]));
        }
        int[][] isNot = {{0, 1}, {0, 2}, {0, 3}, {1, 2}, {1, 3}, {2, 1}, {2, 3}, {3, 1}, {4, 3}, {5, 3}};
        for (int[] lawKind : isNot) {
            due(KIND, x.as(lawKind[0], lawKind[1]));
        }
        due(BEYOND, x.as(6, 0));
        due(BEYOND, x.as(-1, 0));
        due(BEYOND, x.as(0, 4));
        due(BEYOND, x.as(0, -1));
        due(BEYOND, x.as(MAX, MIN));
    }

    private void about() {
        readLaws("C>ab/V_#!_f", "a>b", "V>-/_!a_C", "c>cc!#_");
        int[][] facts = {
            {2, 7, w("ab"), 6, 8, -1, 5, 1, 1},
            {0, 0, w("b"), -1, -1, -1, -1, 0, 0},
            {1, 6, 0, -1, -1, 0, 7, 1, 1},
            {3, 2, w("cc"), -1, -1, 8, -1, 0, 1}};
        for (int law = 0; law < 4; law++) {
            for (int what = 0; what < 9; what++) {
                due(facts[law][what], x.about(law, what));
            }
        }
        due(0, x.told(9));
        due(BEYOND, x.about(0, -1));
        due(BEYOND, x.about(0, 9));
        due(BEYOND, x.about(4, 0));
        due(BEYOND, x.about(-1, 0));
        due(4, x.told(9));
    }

    private void run() {
        dueRun("a>b", "", "");
        dueRun("a>b", "cac", "cbc");
        dueRun("V>-", "ae", "");
        dueRun("a>b/_a", "aaa", "bba");
        dueRun("b>a/a_", "abb", "aab");
        dueRun("a>aa", "aaaa", "aaaaaaaa");
        dueRun("a>aa", "aaaaa", "aaaaa");
        dueRun("a>bc", "aaabbb", "aaabbb");
        dueRun("a>bc", "aabbbb", "bcbcbbbb");
        dueRun("a>bc", "bbbbbbba", "bbbbbbba");
        dueRun("a>-", "abababab", "bbbb");
        dueRun("f>e", "ffffffff", "eeeeeeee");
        due(LAST_WORD, x.run(0, LAST_WORD));
        int[] noWords = {-1, 7, 14, 49, 57 * 7, LAST_WORD + 1, 7 * LAST_WORD + 1, MIN, MAX};
        for (int word : noWords) {
            due(BEYOND, x.run(0, word));
            due(BEYOND, x.holds(0, word));
        }
        due(BEYOND, x.run(-1, 0));
        due(BEYOND, x.run(12, 0));
    }

    private void runPlaces() {
        dueRun("a>b/#_", "aaa", "baa");
        dueRun("a>b/_#", "aaa", "aab");
        dueRun("a>b/#_#", "a", "b");
        dueRun("a>b/#_#", "aa", "aa");
        dueRun("a>b/_", "aca", "bcb");
        dueRun("a>b/_C", "aca", "bca");
        dueRun("a>b/C_", "aca", "acb");
        dueRun("b>c/V_V", "abeab", "aceab");
        dueRun("a>b!#_", "aaa", "abb");
        dueRun("a>b!_", "aaa", "aaa");
        dueRun("a>b!_V", "aca", "bcb");
        dueRun("a>b!c_#", "caca", "cbca");
        dueRun("a>b/c_!_#", "caca", "cbca");
        dueRun("a>b/_c!#_", "acac", "acbc");
        dueRun("C>-/_C", "abbcd", "ad");
        dueRun("V>e/d_d", "dadad", "deded");
        x.vowel(0, false);
        x.vowel(4, false);
        dueRun("V>b", "abcdef", "abcdef");
        dueRun("C>b", "abcdef", "bbbbbb");
        dueRun("a>b!V_V", "aaa", "bbb");
    }

    private void holds() {
        readLaws("a>b", "b>c/V_V", "a>aa", "V>-/_#");
        due(0, x.holds(0, 0));
        due(255, x.holds(0, w("aaaaaaaa")));
        due(128, x.holds(0, w("bbbbbbba")));
        due(2, x.holds(1, w("aba")));
        due(10, x.holds(1, w("abebab")));
        due(31, x.holds(2, w("aaaaa")));
        due(4, x.holds(3, w("aea")));
        due(0, x.holds(3, w("aeb")));
        due(BEYOND, x.holds(4, 0));
        due(BEYOND, x.holds(-1, 0));
        due(BEYOND, x.holds(0, 7));
    }

    // ---- tongues

    private void tongue() {
        due(BEYOND, x.tongue(0));
        due(BEYOND, x.tongue(-2));
        due(0, x.tongue(-1));
        due(BEYOND, x.tongue(1));
        due(1, x.tongue(0));
        for (int i = 2; i < 8; i++) {
            due(i, x.tongue(i - 1));
        }
        due(BEYOND, x.tongue(8));
        due(BEYOND, x.tongue(MIN));
        due(FULL, x.tongue(-1));
        due(FULL, x.tongue(7));
        due(8, x.told(1));
    }

    private void take() {
        readLaws("a>b", "b>c");
        due(BEYOND, x.take(0, 0));
        makeTongue(-1);
        makeTongue(-1);
        due(BEYOND, x.take(0, 2));
        due(BEYOND, x.take(0, -1));
        due(BEYOND, x.take(-1, 0));
        due(BEYOND, x.take(2, 0));
        for (int i = 1; i <= 6; i++) {
            due(i, x.take(0, 0));
        }
        due(FULL, x.take(0, 1));
        due(BEYOND, x.take(0, 2));
        due(1, x.take(1, 1));
        due(w("ac"), x.form(1, w("ab")));
        due(2, x.take(1, 0));
        due(w("bc"), x.form(1, w("ab")));
    }

    private void leave() {
        readLaws("a>b", "b>c");
        makeTongue(-1, 0, 1);
        due(w("c"), x.form(0, w("a")));
        due(1, x.leave(0));
        due(w("b"), x.form(0, w("a")));
        due(0, x.leave(0));
        due(NONE, x.leave(0));
        due(w("a"), x.form(0, w("a")));
        due(BEYOND, x.leave(1));
        due(BEYOND, x.leave(-1));
        due(1, x.take(0, 1));
        due(1, x.own(0, 0));
    }

    private void swap() {
        readLaws("a>b", "b>c", "a>b");
        makeTongue(-1, 0, 1, 1, 2);
        makeTongue(-1, 0);
        due(w("c"), x.form(0, w("a")));
        due(1, x.swap(0, 0));
        due(1, x.own(0, 0));
        due(0, x.own(0, 1));
        due(w("c"), x.form(0, w("a")));
        due(1, x.swap(0, 1));
        due(w("b"), x.form(0, w("a")));
        due(0, x.swap(0, 0));
        // two LAWS of one TEXT are two LAWS
        due(1, x.swap(0, 2));
        due(2, x.own(0, 2));
        due(BEYOND, x.swap(0, 3));
        due(BEYOND, x.swap(0, -1));
        due(BEYOND, x.swap(0, MAX));
        due(BEYOND, x.swap(1, 0));
        due(BEYOND, x.swap(2, 0));
        due(BEYOND, x.swap(-1, 0));
    }

    private void own() {
        readLaws("a>b", "b>c");
        makeTongue(-1, 1, 0, 1);
        due(1, x.own(0, 0));
        due(0, x.own(0, 1));
        due(1, x.own(0, 2));
        due(BEYOND, x.own(0, 3));
        due(BEYOND, x.own(0, -1));
        due(BEYOND, x.own(1, 0));
        due(BEYOND, x.own(-1, 0));
        due(BEYOND, x.own(MAX, MIN));
        x.leave(0);
        due(BEYOND, x.own(0, 2));
    }

    private void form() {
        readLaws("a>b", "b>c", "c>dd");
        makeTongue(-1, 0);
        makeTongue(0, 1);
        makeTongue(1, 2);
        makeTongue(0, 2, 1);
        due(w("abc"), x.form(-1, w("abc")));
        due(w("bbc"), x.form(0, w("abc")));
        due(w("ccc"), x.form(1, w("abc")));
        due(w("dddddd"), x.form(2, w("abc")));
        due(w("ccdd"), x.form(3, w("abc")));
        due(w("ccccc"), x.form(2, w("abcab")));
        due(0, x.form(2, 0));
        due(LAST_WORD, x.form(2, LAST_WORD));
        due(BEYOND, x.form(4, 0));
        due(BEYOND, x.form(-2, 0));
        due(BEYOND, x.form(0, 7));
        due(BEYOND, x.form(-1, 7));
        due(BEYOND, x.form(-1, -1));
    }

    private void order() {
        readLaws("b>c/V_V", "a>-/_#", "a>b", "b>a");
        makeTongue(-1, 0, 1);
        due(w("aba"), x.order(0, 0));
        x.swap(0, 0);
        due(w("aba"), x.order(0, 0));
        makeTongue(-1, 2, 3, 0);
        due(w("a"), x.order(1, 0));
        // all a are b by then: only e is left as a VOWEL
        due(w("eae"), x.order(1, 1));
        due(2, x.own(1, 0));
        due(3, x.own(1, 1));
        makeTongue(1, 2, 2);
        due(NONE, x.order(2, 0));
        // above all are a: only the laws of this TONGUE change places
        makeTongue(1, 3, 2);
        due(w("a"), x.order(3, 0));
        x = new DaughterTongues();
        readLaws("a>b", "b>a", "a>c");
        makeTongue(-1, 0);
        makeTongue(0, 1, 2);
        due(w("a"), x.order(1, 0));
        makeTongue(-1, 0, 2);
        makeTongue(0, 0, 2);
        due(w("a"), x.order(2, 0));
        // above there is no a left
        due(NONE, x.order(3, 0));
        due(BEYOND, x.order(0, 0));
        due(BEYOND, x.order(0, -1));
        due(BEYOND, x.order(4, 0));
        due(BEYOND, x.order(-1, 0));
        due(BEYOND, x.order(0, MAX));
    }

    private void script() {
        due(BEYOND, x.script(0, 0, 0));
        makeTongue(-1);
        makeTongue(0);
        for (int sound = 0; sound < 6; sound++) {
            due(sound, x.script(0, sound, 5 - sound));
            due(5 - sound, x.script(0, sound, -1));
            due(-1, x.script(0, sound, sound));
        }
        due(1, x.told(9));
        due(0, x.script(0, 0, -1));
        due(0, x.script(1, 0, 0));
        due(BEYOND, x.script(0, 6, 0));
        due(BEYOND, x.script(0, -1, 0));
        due(BEYOND, x.script(0, 0, 6));
        due(BEYOND, x.script(0, 0, -2));
        due(BEYOND, x.script(2, 0, 0));
        due(BEYOND, x.script(-1, 0, 0));
        due(-1, x.script(0, 0, 0));
    }

    private void written() {
        readLaws("a>b");
        makeTongue(-1, 0);
        makeTongue(0);
        due(w("bbcdef"), x.written(0, w("abcdef")));
        x.script(0, 1, 5);
        x.script(0, 2, -1);
        x.script(0, 3, 0);
        due(w("ffaef"), x.written(0, w("abcdef")));
        due(w("bbcdef"), x.form(0, w("abcdef")));
        due(w("bbcdef"), x.written(1, w("abcdef")));
        due(0, x.written(0, w("cccc")));
        due(0, x.written(0, 0));
        due(BEYOND, x.written(2, 0));
        due(BEYOND, x.written(-1, 0));
        due(BEYOND, x.written(0, 7));
        due(BEYOND, x.written(0, -1));
    }

    private void back() {
        readLaws("a>b", "f>-", "V>-");
        makeTongue(-1, 0);
        due(8, x.back(0, w("bbb")));
        due(0, x.back(0, w("a")));
        due(1, x.back(0, w("cde")));
        // longer than a STEM can become here
        due(0, x.back(0, w("bbbbbb")));
        due(0, x.back(0, 0));
        makeTongue(0, 1);
        // f, ff, .. of 1 to 5 SOUNDS
        due(5, x.back(1, 0));
        // c among up to four f: as many as it has places, in 1 to 5 SOUNDS
        due(1 + 2 + 3 + 4 + 5, x.back(1, w("c")));
        due(BEYOND, x.back(2, 0));
        due(BEYOND, x.back(-1, 0));
        due(BEYOND, x.back(0, -1));
        due(BEYOND, x.back(0, 7));
    }

    private void backIsFresh() {
        readLaws("V>b", "b>c");
        makeTongue(-1, 0);
        makeTongue(0);
        due(3, x.back(1, w("b")));
        x.vowel(2, true);
        due(4, x.back(1, w("b")));
        x.take(0, 1);
        due(0, x.back(1, w("b")));
        due(4, x.back(1, w("c")));
        x.swap(0, 0);
        due(4, x.back(1, w("b")));
        due(0, x.back(1, w("c")));
        x.script(1, 1, 2);
        due(0, x.back(1, w("b")));
        due(4, x.back(1, w("c")));
        due(4, x.back(0, w("b")));
        x.leave(0);
        due(2, x.back(1, w("c")));
        due(1, x.back(1, w("a")));
    }

    private void stem() {
        readLaws("a>b");
        makeTongue(-1, 0);
        due(w("aa"), x.stem(0, w("bb"), 0));
        due(w("ab"), x.stem(0, w("bb"), 1));
        due(w("ba"), x.stem(0, w("bb"), 2));
        due(w("bb"), x.stem(0, w("bb"), 3));
        due(NONE, x.stem(0, w("bb"), 4));
        due(NONE, x.stem(0, w("bb"), MAX));
        due(NONE, x.stem(0, w("a"), 0));
        due(BEYOND, x.stem(0, w("bb"), -1));
        due(BEYOND, x.stem(1, w("bb"), 0));
        due(BEYOND, x.stem(-1, w("bb"), 0));
        due(BEYOND, x.stem(0, 7, 0));
        due(BEYOND, x.stem(0, -1, 0));
        for (int sound = 0; sound < 6; sound++) {
            x.script(0, sound, -1);
        }
        due(w("a"), x.stem(0, 0, 0));
        due(w("aa"), x.stem(0, 0, 6));
        due(w("fffff"), x.stem(0, 0, ALL_STEMS - 1));
        due(NONE, x.stem(0, 0, ALL_STEMS));
    }

    // ---- matches

    private void match() {
        for (int i = 0; i < 10; i++) {
            due(i, x.match());
        }
        due(FULL, x.match());
        due(10, x.told(2));
        due(ALL_STEMS, x.mothers(9, 0));
        due(BEYOND, x.mothers(10, 0));
    }

    private void find() {
        due(BEYOND, x.find(0, 0, 0, 0));
        makeTongue(-1);
        due(BEYOND, x.find(0, 0, 0, 0));
        x.match();
        due(BEYOND, x.find(0, 1, 0, 0));
        due(BEYOND, x.find(0, -1, 0, 0));
        due(BEYOND, x.find(1, 0, 0, 0));
        due(BEYOND, x.find(-1, 0, 0, 0));
        due(BEYOND, x.find(0, 0, 7, 0));
        due(BEYOND, x.find(0, 0, -2, 0));
        due(BEYOND, x.find(0, 0, LAST_WORD + 1, 0));
        due(BEYOND, x.find(0, 0, 0, -1));
        due(BEYOND, x.find(0, 0, 0, 1000));
        due(0, x.find(0, 0, LAST_WORD, 5));
        due(1, x.find(0, 0, -1, 5));
        due(2, x.find(0, 0, 0, 5));
        x.match();
        // the latest FIND counts, also one of another MATCH
        due(STATE, x.find(1, 0, 0, 4));
        due(BEYOND, x.find(1, 1, 0, 4));
        due(3, x.find(1, 0, 0, 999));
        due(STATE, x.find(0, 0, -1, 998));
        due(4, x.told(3));
    }

    private void findFull() {
        makeTongue(-1);
        x.match();
        for (int i = 0; i < 60; i++) {
            due(i, x.find(0, 0, w("a"), 10));
        }
        due(FULL, x.find(0, 0, w("b"), 10));
        due(STATE, x.find(0, 0, w("b"), 9));
        due(BEYOND, x.find(0, 0, w("b"), 1000));
        due(w("a"), x.known(0, 0, 10));
        due(60, x.told(3));
    }

    private void known() {
        makeTongue(-1);
        makeTongue(-1);
        x.match();
        x.match();
        x.find(0, 0, w("a"), 10);
        x.find(0, 0, w("b"), 20);
        x.find(0, 0, w("c"), 20);
        x.find(0, 1, w("d"), 20);
        x.find(1, 0, 0, 20);
        x.find(0, 0, -1, 30);
        x.find(0, 0, w("e"), 40);
        due(NONE, x.known(0, 0, 9));
        due(w("a"), x.known(0, 0, 10));
        due(w("a"), x.known(0, 0, 19));
        due(w("c"), x.known(0, 0, 20));
        due(NONE, x.known(0, 0, 30));
        due(NONE, x.known(0, 0, 39));
        due(w("e"), x.known(0, 0, 999));
        due(w("d"), x.known(0, 1, 30));
        due(0, x.known(1, 0, 20));
        due(NONE, x.known(1, 1, 999));
        due(BEYOND, x.known(2, 0, 0));
        due(BEYOND, x.known(-1, 0, 0));
        due(BEYOND, x.known(0, 2, 0));
        due(BEYOND, x.known(0, -1, 0));
        due(BEYOND, x.known(0, 0, -1));
        due(BEYOND, x.known(0, 0, 1000));
    }

    /** Two TONGUES and a MATCH, known in the first from 10, in the second from 20 to 40, first rightly, then wrongly. */
    private void makeMatch() {
        readLaws("a>b", "c>d");
        makeTongue(-1, 0);
        makeTongue(-1, 1);
        x.match();
        x.find(0, 0, w("bd"), 10);
        x.find(0, 1, w("ad"), 20);
        x.find(0, 1, w("e"), 30);
        x.find(0, 1, -1, 40);
    }

    private void mothers() {
        makeMatch();
        due(ALL_STEMS, x.mothers(0, 0));
        due(ALL_STEMS, x.mothers(0, 9));
        due(2, x.mothers(0, 10));
        due(1, x.mothers(0, 20));
        due(0, x.mothers(0, 30));
        due(2, x.mothers(0, 40));
        x.leave(0);
        due(1, x.mothers(0, 10));
        due(0, x.mothers(0, 20));
        due(BEYOND, x.mothers(1, 0));
        due(BEYOND, x.mothers(-1, 0));
        due(BEYOND, x.mothers(0, -1));
        due(BEYOND, x.mothers(0, 1000));
    }

    private void mother() {
        makeMatch();
        due(w("a"), x.mother(0, 0, 0));
        due(w("fffff"), x.mother(0, 0, ALL_STEMS - 1));
        due(NONE, x.mother(0, 0, ALL_STEMS));
        due(w("ad"), x.mother(0, 10, 0));
        due(w("bd"), x.mother(0, 10, 1));
        due(NONE, x.mother(0, 10, 2));
        due(NONE, x.mother(0, 10, MAX));
        due(w("ad"), x.mother(0, 20, 0));
        due(NONE, x.mother(0, 30, 0));
        due(BEYOND, x.mother(0, 0, -1));
        due(BEYOND, x.mother(1, 0, 0));
        due(BEYOND, x.mother(-1, 0, 0));
        due(BEYOND, x.mother(0, -1, 0));
        due(BEYOND, x.mother(0, 1000, 0));
    }

    private void doubt() {
        makeMatch();
        due(63, x.doubt(0, 0, 0));
        due(127, x.doubt(0, 0, 1));
        due(127, x.doubt(0, 0, 4));
        due(3, x.doubt(0, 10, 0));
        due(8, x.doubt(0, 10, 1));
        due(64, x.doubt(0, 10, 2));
        due(64, x.doubt(0, 10, 4));
        due(0, x.doubt(0, 30, 0));
        due(0, x.doubt(0, 30, 4));
        makeTongue(-1, readLaw("f>-"));
        x.match();
        x.find(1, 2, w("c"), 50);
        due(4 + 32, x.doubt(1, 50, 0));
        due(4 + 32 + 64, x.doubt(1, 50, 1));
        due(BEYOND, x.doubt(0, 10, 5));
        due(BEYOND, x.doubt(0, 10, -1));
        due(BEYOND, x.doubt(2, 10, 0));
        due(BEYOND, x.doubt(-1, 10, 0));
        due(BEYOND, x.doubt(0, -1, 0));
        due(BEYOND, x.doubt(0, 1000, 0));
    }

    private void best() {
        makeMatch();
        due(w("a"), x.best(0, 0));
        due(w("ad"), x.best(0, 10));
        due(w("ad"), x.best(0, 20));
        // one TONGUE each: the least number
        due(w("e"), x.best(0, 30));
        makeTongue(-1);
        x.find(0, 1, w("e"), 50);
        x.find(0, 2, w("bd"), 50);
        due(w("bd"), x.best(0, 50));
        x.find(0, 0, LAST_WORD, 60);
        x.find(0, 1, LAST_WORD, 60);
        x.find(0, 2, LAST_WORD, 60);
        due(w("a"), x.best(0, 60));
        due(BEYOND, x.best(1, 0));
        due(BEYOND, x.best(-1, 0));
        due(BEYOND, x.best(0, -1));
        due(BEYOND, x.best(0, 1000));
    }

    private void breakers() {
        makeMatch();
        due(0, x.breakers(0, 0));
        due(0, x.breakers(0, 20));
        due(1, x.breakers(0, 30));
        due(0, x.breakers(0, 40));
        makeTongue(-1);
        x.find(0, 1, w("e"), 50);
        x.find(0, 2, w("bd"), 50);
        due(2, x.breakers(0, 50));
        x.find(0, 0, LAST_WORD, 60);
        x.find(0, 1, LAST_WORD, 60);
        x.find(0, 2, LAST_WORD, 60);
        due(7, x.breakers(0, 60));
        due(BEYOND, x.breakers(1, 0));
        due(BEYOND, x.breakers(-1, 0));
        due(BEYOND, x.breakers(0, -1));
        due(BEYOND, x.breakers(0, 1000));
    }

    private void lent() {
        readLaws("a>b", "f>e", "b>c", "c>d");
        makeTongue(-1, 0);
        makeTongue(-1, 1);
        makeTongue(-1, 2, 3);
        x.match();
        x.find(0, 0, w("bf"), 1);
        x.find(0, 1, w("ae"), 1);
        due(STATE, x.lent(0, 1, 2));
        x.find(0, 2, w("af"), 10);
        due(w("af"), x.best(0, 10));
        due(STATE, x.lent(0, 10, 2));
        x.find(0, 2, w("df"), 20);
        due(4, x.breakers(0, 20));
        due(0, x.lent(0, 20, 2));
        due(STATE, x.lent(0, 20, 0));
        x.find(0, 2, w("bf"), 30);
        due(1, x.lent(0, 30, 2));
        x.find(0, 2, w("cf"), 40);
        due(NONE, x.lent(0, 40, 2));
        makeTongue(-1);
        x.find(0, 3, w("af"), 50);
        x.find(0, 2, w("ae"), 50);
        due(w("af"), x.best(0, 50));
        due(10, x.lent(0, 50, 2));
        x.script(2, 5, -1);
        x.find(0, 2, w("d"), 60);
        due(0, x.lent(0, 60, 2));
        due(BEYOND, x.lent(1, 0, 0));
        due(BEYOND, x.lent(-1, 0, 0));
        due(BEYOND, x.lent(0, -1, 0));
        due(BEYOND, x.lent(0, 1000, 0));
        due(BEYOND, x.lent(0, 0, 4));
        due(BEYOND, x.lent(0, 0, -1));
    }

    private void lentBehind() {
        readLaws("b>c", "a>b", "a>d", "d>e");
        makeTongue(-1);
        makeTongue(-1);
        makeTongue(-1, 0, 1);
        x.match();
        x.find(0, 0, w("a"), 1);
        x.find(0, 1, w("a"), 1);
        x.find(0, 2, w("c"), 1);
        due(4, x.breakers(0, 1));
        // its own FORM, over which its LAWS are RUN once more, would be c; but it is not another TONGUE
        due(NONE, x.lent(0, 1, 2));
        // behind all of its LAWS
        x.find(0, 2, w("a"), 2);
        due(2, x.lent(0, 2, 2));
        makeTongue(0, 2);
        makeTongue(1, 2);
        x.find(0, 2, w("d"), 3);
        due(30, x.lent(0, 3, 2));
        x.take(2, 3);
        due(33, x.lent(0, 3, 2));
        x.find(0, 2, w("e"), 4);
        due(30, x.lent(0, 4, 2));
    }

    private void leans() {
        readLaws("a>b", "c>d", "e>f");
        makeTongue(-1, 0);
        makeTongue(-1, 0, 1);
        makeTongue(0);
        x.match();
        due(0, x.leans(0, 0));
        x.find(0, 0, w("b"), 10);
        due(0, x.leans(0, 9));
        due(1, x.leans(0, 10));
        due(0, x.leans(1, 10));
        x.match();
        x.find(1, 0, w("c"), 20);
        due(1, x.leans(0, 20));
        due(0, x.leans(1, 20));
        x.find(1, 1, w("d"), 30);
        due(1, x.leans(1, 30));
        x.match();
        x.find(2, 2, w("b"), 40);
        due(2, x.leans(0, 40));
        due(0, x.leans(2, 40));
        // no MOTHERS with it, nor without it
        x.find(2, 2, LAST_WORD, 50);
        due(1, x.leans(0, 50));
        due(BEYOND, x.leans(3, 0));
        due(BEYOND, x.leans(-1, 0));
        due(BEYOND, x.leans(0, -1));
        due(BEYOND, x.leans(0, 1000));
        leansOnOthers();
    }

    /** As many MOTHERS with a LAW as without it, but others. */
    private void leansOnOthers() {
        x = new DaughterTongues();
        readLaws("a>b", "a>d", "e>d/_b", "b>-/d_", "d>f");
        makeTongue(-1, 4, 0, 1, 2, 3);
        makeTongue(-1);
        for (int sound = 0; sound < 6; sound++) {
            x.script(1, sound, sound == 1 ? 1 : -1);
        }
        x.match();
        x.find(0, 0, w("d"), 0);
        x.find(0, 1, 0, 0);
        due(1, x.mothers(0, 0));
        due(w("ea"), x.mother(0, 0, 0));
        due(1, x.leans(0, 0));
        // the LAW is there again
        due(w("ea"), x.mother(0, 0, 0));
        leansAlone();
        leansInDaughter();
    }

    /** MOTHERS without a LAW alone, also where another TONGUE hasn't the LAW. */
    private void leansAlone() {
        x = new DaughterTongues();
        readLaws("a>b");
        makeTongue(-1, 0);
        makeTongue(-1);
        x.match();
        x.find(0, 0, w("a"), 0);
        x.find(0, 1, w("a"), 0);
        due(1, x.leans(0, 0));
        due(0, x.mothers(0, 0));
    }

    /** Other LAWS of the TONGUE above hold on. */
    private void leansInDaughter() {
        x = new DaughterTongues();
        readLaws("d>b", "e>f", "b>c");
        makeTongue(-1, 0, 1);
        makeTongue(0, 2);
        x.match();
        x.find(0, 1, w("c"), 0);
        due(0, x.leans(1, 0));
        due(1, x.leans(0, 0));
        due(1, x.leans(2, 0));
    }

    // ---- pairs

    private void pair() {
        due(BEYOND, x.pair(7, 0));
        due(BEYOND, x.pair(0, 7));
        due(BEYOND, x.pair(-1, 0));
        due(BEYOND, x.pair(0, LAST_WORD + 1));
        for (int i = 1; i <= 6; i++) {
            due(i, x.pair(LAST_WORD, 0));
        }
        due(FULL, x.pair(0, 0));
        due(BEYOND, x.pair(0, 7));
        due(6, x.told(4));
    }

    private void unpair() {
        due(0, x.unpair());
        x.pair(w("a"), w("ab"));
        x.pair(0, 0);
        due(NONE, x.fewest());
        due(2, x.unpair());
        due(0, x.unpair());
        due(0, x.told(4));
        due(0, x.fewest());
        due(BEYOND, x.proof(0));
        due(1, x.pair(0, 0));
    }

    private void fewest() {
        due(0, x.fewest());
        x.pair(w("abc"), w("abc"));
        due(0, x.fewest());
        x.pair(w("ab"), w("ac"));
        // the first PAIR has a b behind an a that stays, too
        due(1, x.fewest());
        x.pair(w("d"), w("e"));
        due(2, x.fewest());
        x.pair(w("f"), 0);
        due(NONE, x.fewest());
        x.unpair();
        x.pair(w("a"), w("ab"));
        due(NONE, x.fewest());
        x.unpair();
        x.pair(w("ab"), w("ac"));
        x.pair(w("eb"), w("ec"));
        x.pair(w("db"), w("db"));
        due(1, x.fewest());
        x.vowel(0, false);
        due(2, x.fewest());
        x.vowel(0, true);
        due(1, x.fewest());
    }

    private void dueSimple(int i, int from, int to, int place) {
        due(from, x.simple(i, 0));
        due(to, x.simple(i, 1));
        due(place, x.simple(i, 2));
    }

    private void simple() {
        due(NONE, x.simple(0, 0));
        due(BEYOND, x.simple(-1, 0));
        due(BEYOND, x.simple(0, -1));
        due(BEYOND, x.simple(0, 3));
        x.pair(w("ab"), w("ac"));
        x.pair(w("eb"), w("ec"));
        x.pair(w("db"), w("db"));
        dueSimple(0, 1, 2, 7);
        due(NONE, x.simple(1, 0));
        due(NONE, x.simple(MAX, 2));
        x.vowel(0, false);
        dueSimple(0, 1, 2, 0);
        dueSimple(1, 2, 1, 4);
        due(NONE, x.simple(2, 0));
        due(BEYOND, x.simple(2, 3));
        x.pair(0, w("a"));
        due(NONE, x.simple(0, 0));
        due(BEYOND, x.simple(-1, 0));
    }

    private void dueOnly(String from, String to, String kept, int sound, int becomes, int place) {
        x.unpair();
        x.pair(w(from), w(to));
        x.pair(w(kept), w(kept));
        due(1, x.fewest());
        dueSimple(0, sound, becomes, place);
    }

    private void simpleOrder() {
        dueOnly("ab", "b", "", 0, -1, 0);
        dueOnly("aab", "ab", "a", 0, -1, 1);
        dueOnly("aca", "ac", "", 0, -1, 3);
        dueOnly("aca", "ac", "acab", 0, -1, 18);
        dueOnly("aca", "ca", "", 0, -1, 9);
        dueOnly("aca", "ca", "ad", 0, -1, 12);
        dueOnly("afa", "aea", "f", 5, 4, 1);
        dueOnly("abbb", "ab", "ab", 1, -1, 2);
        dueOnly("fba", "fca", "db", 1, 2, 6);
        dueOnly("ba", "ca", "be", 1, 2, 10);
        due(0, x.told(9));
        x.unpair();
        x.pair(w("e"), w("f"));
        x.pair(w("f"), w("a"));
        due(2, x.fewest());
        dueSimple(0, 5, 0, 0);
        dueSimple(1, 4, 5, 0);
    }

    private void proof() {
        due(BEYOND, x.proof(0));
        x.pair(w("abc"), w("abc"));
        due(w("abc"), x.proof(0));
        x.unpair();
        x.pair(w("ab"), w("ac"));
        due(w("ac"), x.proof(0));
        x.unpair();
        x.pair(w("abc"), w("cb"));
        x.pair(w("d"), w("d"));
        due(2, x.fewest());
        due(w("cbc"), x.proof(0));
        due(w("d"), x.proof(1));
        due(BEYOND, x.proof(2));
        due(BEYOND, x.proof(-1));
        x.pair(0, w("a"));
        due(NONE, x.proof(0));
        due(NONE, x.proof(2));
        due(BEYOND, x.proof(3));
    }

    // ---- the land

    private void road() {
        due(0, x.road(0, 7, 9));
        due(9, x.road(7, 0, 1));
        due(1, x.road(0, 7, 0));
        due(0, x.road(0, 7, 0));
        due(BEYOND, x.road(8, 0, 1));
        due(BEYOND, x.road(0, 8, 1));
        due(BEYOND, x.road(-1, 0, 1));
        due(BEYOND, x.road(0, -1, 1));
        due(BEYOND, x.road(3, 3, 1));
        due(BEYOND, x.road(0, 1, 10));
        due(BEYOND, x.road(0, 1, -1));
        due(0, x.road(0, 1, 2));
    }

    private void shut() {
        due(1000, x.shut(7, 0));
        due(0, x.shut(7, 999));
        due(999, x.shut(7, 1000));
        due(1000, x.shut(7, 5));
        due(1000, x.shut(6, 5));
        due(BEYOND, x.shut(8, 0));
        due(BEYOND, x.shut(-1, 0));
        due(BEYOND, x.shut(0, 1001));
        due(BEYOND, x.shut(0, -1));
        due(5, x.shut(7, 1000));
    }

    private void wave() {
        due(BEYOND, x.wave(0, 0, 0));
        readLaws("a>b");
        due(BEYOND, x.wave(-1, 0, 0));
        due(BEYOND, x.wave(1, 0, 0));
        due(BEYOND, x.wave(0, 8, 0));
        due(BEYOND, x.wave(0, -1, 0));
        due(BEYOND, x.wave(0, 0, 1000));
        due(BEYOND, x.wave(0, 0, -1));
        for (int i = 0; i < 8; i++) {
            due(i, x.wave(0, 7, 999));
        }
        due(FULL, x.wave(0, 0, 0));
        due(BEYOND, x.wave(0, 0, 1000));
        due(8, x.told(5));
    }

    private void comes() {
        readLaws("a>b");
        x.road(0, 1, 5);
        x.road(2, 1, 3);
        x.road(0, 2, 9);
        due(BEYOND, x.comes(0, 0));
        x.wave(0, 0, 10);
        x.wave(0, 2, 999);
        due(10, x.comes(0, 0));
        due(15, x.comes(0, 1));
        due(18, x.comes(0, 2));
        due(NONE, x.comes(0, 3));
        due(1002, x.comes(1, 1));
        due(1007, x.comes(1, 0));
        x.road(2, 0, 7);
        due(17, x.comes(0, 2));
        due(1006, x.comes(1, 0));
        x.road(0, 1, 0);
        due(20, x.comes(0, 1));
        for (int p = 2; p < 7; p++) {
            x.road(p, p + 1, 9);
        }
        due(62, x.comes(0, 7));
        x.road(0, 1, 1);
        x.road(0, 2, 0);
        x.road(1, 2, 2);
        x.wave(0, 7, 100);
        due(148, x.comes(2, 0));
        due(BEYOND, x.comes(3, 0));
        due(BEYOND, x.comes(-1, 0));
        due(BEYOND, x.comes(0, 8));
        due(BEYOND, x.comes(0, -1));
    }

    private void comesPastShut() {
        readLaws("a>b");
        x.road(0, 1, 5);
        x.road(1, 2, 3);
        x.road(0, 2, 9);
        x.wave(0, 0, 10);
        x.shut(1, 16);
        due(15, x.comes(0, 1));
        due(18, x.comes(0, 2));
        x.shut(1, 15);
        due(NONE, x.comes(0, 1));
        due(19, x.comes(0, 2));
        x.shut(1, 1000);
        due(15, x.comes(0, 1));
        x.shut(0, 11);
        due(10, x.comes(0, 0));
        x.shut(0, 10);
        due(NONE, x.comes(0, 0));
        due(NONE, x.comes(0, 1));
        due(NONE, x.comes(0, 2));
        x.shut(0, 1000);
        x.wave(0, 0, 998);
        due(1003, x.comes(1, 1));
        x.shut(1, 999);
        due(NONE, x.comes(1, 1));
        due(1007, x.comes(1, 2));
    }

    private void speech() {
        readLaws("a>b", "b>c", "c>a");
        x.road(0, 1, 2);
        x.wave(1, 0, 5);
        x.wave(0, 0, 5);
        x.wave(2, 1, 6);
        due(w("abc"), x.speech(0, 4, w("abc")));
        // of the same YEAR, the first WAVE first
        due(w("bcc"), x.speech(0, 5, w("abc")));
        due(w("baa"), x.speech(0, 8, w("abc")));
        due(w("abc"), x.speech(1, 5, w("abc")));
        due(w("aba"), x.speech(1, 6, w("abc")));
        // c>a came first here, then b>c, then a>b
        due(w("bcb"), x.speech(1, 7, w("abc")));
        due(w("abc"), x.speech(7, 999, w("abc")));
        due(0, x.speech(0, 0, 0));
        due(BEYOND, x.speech(8, 0, 0));
        due(BEYOND, x.speech(-1, 0, 0));
        due(BEYOND, x.speech(0, 1000, 0));
        due(BEYOND, x.speech(0, -1, 0));
        due(BEYOND, x.speech(0, 0, 7));
    }

    private void list() {
        due(BEYOND, x.list(7));
        due(BEYOND, x.list(-1));
        due(BEYOND, x.list(LAST_WORD + 1));
        for (int i = 1; i <= 12; i++) {
            due(i, x.list(i == 1 ? 0 : LAST_WORD));
        }
        due(FULL, x.list(0));
        due(BEYOND, x.list(7));
        due(12, x.told(6));
    }

    private void speeches() {
        readLaws("a>b", "b>a", "c>d");
        x.road(0, 1, 5);
        x.wave(0, 0, 10);
        x.wave(1, 2, 20);
        due(1, x.speeches(999));
        x.list(w("c"));
        due(1, x.speeches(999));
        x.list(w("a"));
        due(1, x.speeches(9));
        // 0 says b, the others a
        due(2, x.speeches(10));
        due(2, x.speeches(15));
        // with b>a in 2, a is still a there
        due(2, x.speeches(20));
        x.list(w("b"));
        due(3, x.speeches(20));
        x.wave(2, 7, 30);
        due(3, x.speeches(29));
        due(4, x.speeches(30));
        due(BEYOND, x.speeches(1000));
        due(BEYOND, x.speeches(-1));
    }

    private void parted() {
        readLaws("a>b", "b>a");
        x.road(0, 1, 5);
        x.wave(0, 0, 10);
        x.wave(0, 2, 0);
        due(NONE, x.parted(0, 3));
        x.list(w("a"));
        due(10, x.parted(0, 3));
        due(10, x.parted(3, 0));
        due(10, x.parted(0, 1));
        due(15, x.parted(1, 3));
        due(0, x.parted(2, 3));
        due(NONE, x.parted(3, 4));
        due(NONE, x.parted(2, 2));
        x.road(5, 6, 9);
        x.wave(0, 5, 995);
        due(995, x.parted(5, 6));
        due(NONE, x.parted(6, 7));
        // the YEAR 1000 is none
        x.road(5, 6, 5);
        due(NONE, x.parted(6, 7));
        x.road(5, 6, 4);
        due(999, x.parted(6, 7));
        // a comes back where both came in one YEAR
        x.wave(0, 7, 40);
        x.wave(1, 7, 40);
        due(NONE, x.parted(7, 3));
        due(BEYOND, x.parted(8, 0));
        due(BEYOND, x.parted(0, 8));
        due(BEYOND, x.parted(-1, 0));
        due(BEYOND, x.parted(0, -1));
    }

    // ---- sheets

    private void sheet() {
        due(BEYOND, x.sheet(4, 8, -1));
        due(BEYOND, x.sheet(-1, 8, 1));
        due(BEYOND, x.sheet(0, 7, -1));
        due(BEYOND, x.sheet(0, 64, 1));
        due(BEYOND, x.sheet(0, -8, 1));
        due(SIZE, x.sheet(0, 8, -1));
        due(SIZE, x.sheet(0, 0, -1));
        due(SIZE, x.sheet(0, 8, MIN));
        due(BEYOND, x.sheet(0, 0, 13));
        due(BEYOND, x.sheet(0, 16, MAX));
        due(MISSING, x.write(0, 0, 0));
        due(12, x.sheet(0, 32, 12));
        due(0, x.write(0, 11, 5));
        due(BEYOND, x.write(0, 12, 5));
        due(SIZE, x.sheet(0, 0, -1));
        due(5, x.write(0, 11, 6));
        due(12, x.sheet(0, 32, 12));
        due(0, x.write(0, 11, 5));
        due(0, x.sheet(0, 0, 5));
        due(MISSING, x.write(0, 0, 0));
        due(0, x.sheet(0, 8, 0));
        due(BEYOND, x.write(0, 0, 0));
        due(1, x.sheet(3, 16, 1));
    }

    private void write() {
        x.sheet(0, 8, 2);
        x.sheet(1, 16, 2);
        x.sheet(2, 32, 2);
        due(0, x.write(0, 1, 300));
        due(44, x.write(0, 1, 200));
        due(-56, x.write(0, 1, 127));
        due(127, x.write(0, 1, -129));
        due(127, x.write(0, 1, 0));
        due(0, x.write(0, 0, 0));
        due(0, x.write(1, 0, 70000));
        due(4464, x.write(1, 0, 40000));
        due(-25536, x.write(1, 0, 0));
        due(0, x.write(2, 0, MIN));
        due(MIN, x.write(2, 0, BEYOND));
        // what it was, though it looks like a finding
        due(BEYOND, x.write(2, 0, 70000));
        due(70000, x.write(2, 0, 1));
        due(0, x.told(9));
        due(BEYOND, x.write(4, 0, 0));
        due(BEYOND, x.write(-1, 0, 0));
        due(MISSING, x.write(3, 0, 0));
        due(MISSING, x.write(3, -1, 0));
        due(BEYOND, x.write(0, 2, 0));
        due(BEYOND, x.write(0, -1, 0));
        due(6, x.told(9));
    }

    private void dueNumbers(int s, int... numbers) {
        for (int i = 0; i < numbers.length; i++) {
            due(numbers[i], x.write(s, i, numbers[i]));
        }
    }

    private void copy() {
        x.sheet(0, 16, 5);
        x.sheet(1, 16, 3);
        x.sheet(2, 8, 5);
        for (int i = 0; i < 5; i++) {
            x.write(0, i, i + 1);
        }
        due(2, x.copy(0, 3, 1, 1, 2));
        dueNumbers(1, 0, 4, 5);
        due(4, x.copy(0, 0, 0, 1, 4));
        dueNumbers(0, 1, 1, 2, 3, 4);
        due(3, x.copy(0, 2, 0, 0, 3));
        dueNumbers(0, 2, 3, 4, 3, 4);
        due(0, x.copy(0, 5, 1, 3, 0));
        due(BEYOND, x.copy(0, 6, 1, 0, 0));
        due(BEYOND, x.copy(0, 0, 1, 4, 0));
        due(BEYOND, x.copy(0, 0, 1, 0, 4));
        due(BEYOND, x.copy(1, 1, 0, 0, 3));
        due(BEYOND, x.copy(0, -1, 1, 0, 1));
        due(BEYOND, x.copy(0, 0, 1, -1, 1));
        due(BEYOND, x.copy(0, 0, 1, 0, -1));
        due(BEYOND, x.copy(0, MAX, 1, 0, MAX));
        due(BEYOND, x.copy(0, 1, 1, MAX, 1));
        due(KIND, x.copy(0, 0, 2, 0, 1));
        due(KIND, x.copy(0, -1, 2, 0, 1));
        due(MISSING, x.copy(0, 0, 3, 0, 1));
        due(MISSING, x.copy(3, 0, 2, 0, 1));
        due(BEYOND, x.copy(4, 0, 3, 0, 1));
        due(BEYOND, x.copy(3, 0, -1, 0, 1));
        dueNumbers(0, 2, 3, 4, 3, 4);
        dueNumbers(1, 0, 4, 5);
    }

    private void read() {
        due(BEYOND, x.read(4));
        due(BEYOND, x.read(-1));
        due(MISSING, x.read(0));
        x.list(w("b"));
        x.list(w("c"));
        due(MISSING, x.read(0));
        due(2, x.told(6));
        x.sheet(0, 32, 3);
        x.write(0, 0, w("a"));
        x.write(0, 1, 7);
        x.write(0, 2, w("a"));
        due(1, x.read(0));
        due(1, x.told(6));
        readLaws("b>c", "a>c");
        x.wave(0, 0, 5);
        x.wave(1, 0, 6);
        // THE LIST is a now, and no longer b
        due(6, x.parted(0, 1));
        x.write(0, 0, -1);
        due(0, x.read(0));
        due(0, x.told(6));
        x.sheet(1, 8, 12);
        due(12, x.read(1));
        due(FULL, x.list(0));
        x.sheet(1, 8, 0);
        due(0, x.read(1));
        x.sheet(2, 32, 1);
        x.write(2, 0, LAST_WORD);
        due(1, x.read(2));
        x.write(2, 0, LAST_WORD + 1);
        due(0, x.read(2));
    }

    private void told() {
        readLaws("a>b", "b>c", "c>d");
        makeTongue(-1);
        makeTongue(-1);
        x.match();
        for (int i = 0; i < 4; i++) {
            x.find(0, 0, 0, 0);
        }
        for (int i = 0; i < 5; i++) {
            x.pair(0, 0);
        }
        for (int i = 0; i < 6; i++) {
            x.wave(0, 0, 0);
        }
        for (int i = 0; i < 7; i++) {
            x.list(0);
        }
        x.feed(0, 8);
        x.vowel(1, true);
        int[] all = {3, 2, 1, 4, 5, 6, 7, 8, 19, 0};
        for (int what = 0; what < 10; what++) {
            due(all[what], x.told(what));
        }
        due(BEYOND, x.told(10));
        due(BEYOND, x.told(-1));
        due(2, x.told(9));
        due(WRONG, x.law());
        due(0, x.told(7));
        due(NONE, x.leave(0));
        due(STATE, x.lent(0, 0, 1));
        due(5, x.told(9));
        due(-1, x.about(0, 3));
        due(5, x.told(9));
    }
}

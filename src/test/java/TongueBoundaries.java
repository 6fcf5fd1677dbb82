/** Boundary cases of TONGUES, their LAWS and SCRIPTS (promises 9 to 19). */
final class TongueBoundaries extends Boundaries {

    /** Only of fffff an f is left where it was RUN twice, of no STEM where it was RUN three times. */
    private static final String FROM_THE_ENDS = "f>a!f_f";

    @Boundary(promise = Boundary.TERMS, says = "TONGUES 0, 1, .. (at most 8) are each under an earlier one, or under the MOTHER (-1)")
    void atMostEightTongues() {
        for (int t = 0; t < 8; t++) {
            // none is under itself
            refuse(BEYOND, () -> x.tongue(x.told(1)));
            due(t, x.tongue(t - 1));
        }
        due(FULL, x.tongue(7));
        due(FULL, x.tongue(-1));
        due(8, x.told(1));
        due(w("a"), x.form(7, w("a")));
        due(BEYOND, x.form(8, w("a")));
    }

    @Boundary(promise = Boundary.TERMS, says = "have a ROW of at most 6 LAWS of their own (a LAW may stand in many, and more than once)")
    void atMostSixOwnLaws() {
        laws("a>aa", "a>b/_#");
        tongue(-1, 1, 1, 1, 1, 1, 1);
        tongue(-1, 0, 0, 0, 1, 0, 1);
        due(FULL, x.take(0, 1));
        due(FULL, x.take(1, 0));
        dueRow(0, 1, 1, 1, 1, 1, 1);
        dueRow(1, 0, 0, 0, 1, 0, 1);
        due(BEYOND, x.own(0, 6));
        due(w("aab"), x.form(0, w("aaa")));
        // a, aa, aaaa, aaaaaaaa, aaaaaaab, and there is no room for more
        due(w("aaaaaaab"), x.form(1, w("a")));
    }

    @Boundary(promise = Boundary.TERMS, says = "THE FORM of a WORD in a TONGUE: the FORM in the one above it (the WORD itself, if that is "
        + "the MOTHER), over which its own LAWS are RUN in their order.")
    void formDownTheLongestLine() {
        laws("a>b", "b>c", "c>d", "d>e", "e>f", "f>ff", "f>a/#_", "f>e/_#");
        String[] forms = {"b", "c", "d", "e", "f", "ff", "af", "ae"};
        for (int t = 0; t < 8; t++) {
            tongue(t - 1, t);
            due(w(forms[t]), x.form(t, w("a")));
            due(0, x.form(t, 0));
        }
        due(w("a"), x.form(-1, w("a")));
        // above it all, a LAW more
        due(2, x.take(0, 1));
        due(w("ae"), x.form(7, w("a")));
        due(w("c"), x.form(0, w("a")));
        due(1, x.leave(0));
        due(0, x.leave(0));
        due(w("a"), x.form(7, w("a")));
    }

    @Boundary(promise = Boundary.TERMS, says = "A SCRIPT of a TONGUE has for each SOUND a SIGN (0 to 5), or none (each its own, at first).")
    void scriptsAtFirst() {
        tongue(-1);
        x.script(0, 0, 5);
        tongue(0);
        due(w("abcdef"), x.written(1, w("abcdef")));
        due(w("fbcdef"), x.written(0, w("abcdef")));
        for (int sound = 0; sound < 6; sound++) {
            due(sound, x.script(1, sound, 5));
        }
        due(LAST_WORD, x.written(1, w("abcdefab")));
        for (int sound = 0; sound < 6; sound++) {
            due(5, x.script(1, sound, 0));
        }
        due(w("aaaaaaaa"), x.written(1, w("abcdefab")));
        hideAllBut(1, -1);
        due(0, x.written(1, w("abcdefab")));
    }

    @Boundary(promise = Boundary.TERMS, says = "WRITTEN: the SIGNS of a WORD's SOUNDS in order, told by a number as a WORD is (0, if there is none).")
    void writtenWithoutSigns() {
        laws("a>-");
        tongue(-1, 0);
        due(0, x.written(0, 0));
        due(0, x.written(0, w("aaaaaaaa")));
        hideAllBut(0, 5);
        due(0, x.written(0, w("bcde")));
        due(w("f"), x.written(0, w("bcdef")));
        due(w("ff"), x.written(0, w("fbcdef")));
        due(LAST_WORD, x.written(0, LAST_WORD));
        hideAllBut(0, -1);
        due(0, x.written(0, LAST_WORD));
    }

    // ---- promise 9

    @Boundary(promise = 9, says = "A new TONGUE under another one (-1: the MOTHER): its number.")
    void tongueUnderFirstAndLast() {
        laws("a>b");
        due(0, x.tongue(-1));
        due(1, x.tongue(0));
        due(2, x.tongue(1));
        due(3, x.tongue(-1));
        due(1, x.take(0, 0));
        due(w("b"), x.form(2, w("a")));
        due(w("a"), x.form(3, w("a")));
    }

    @Boundary(promise = 9, says = "BEYOND: no such one.")
    void tongueBeyond() {
        refuseEach(BEYOND, new int[] {MIN, -2, 0, 1, MAX}, above -> x.tongue(above));
        due(0, x.tongue(-1));
        refuseEach(BEYOND, new int[] {MIN, -2, 1, 8, MAX}, above -> x.tongue(above));
        due(1, x.tongue(0));
        due(2, x.told(1));
    }

    @Boundary(promise = 9, says = "FULL.")
    void tongueFull() {
        for (int t = 0; t < 7; t++) {
            due(t, x.tongue(-1));
        }
        due(7, x.tongue(6));
        refuse(FULL, () -> x.tongue(-1));
        refuse(FULL, () -> x.tongue(7));
        refuse(BEYOND, () -> x.tongue(8));
        due(2, x.script(7, 2, 2));
        due(BEYOND, x.script(8, 2, 2));
    }

    // ---- promise 10

    @Boundary(promise = 10, says = "A LAW comes behind the own ones of a TONGUE: how many it has.")
    void takeComesBehind() {
        laws("a>b", "b>c");
        tongue(-1);
        tongue(-1);
        due(1, x.take(0, 0));
        due(w("b"), x.form(0, w("a")));
        due(2, x.take(0, 1));
        due(w("c"), x.form(0, w("a")));
        due(1, x.take(1, 1));
        due(2, x.take(1, 0));
        due(w("b"), x.form(1, w("a")));
    }

    @Boundary(promise = 10, says = "A LAW comes behind the own ones of a TONGUE")
    void takeChangesFormsAtOnce() {
        laws("a>b", "b>c");
        tongue(-1);
        tongue(0);
        tongue(-1);
        int[] behindNone = {1, 1, 1};
        int[] behindOne = {2, 2, 1};
        int[] behindTwo = {0, 0, 1};
        for (int t = 0; t < 3; t++) {
            due(behindNone[t], x.back(t, w("b")));
        }
        due(1, x.take(0, 0));
        for (int t = 0; t < 3; t++) {
            due(behindOne[t], x.back(t, w("b")));
        }
        refuse(BEYOND, () -> x.take(0, 2));
        for (int t = 0; t < 3; t++) {
            due(behindOne[t], x.back(t, w("b")));
        }
        due(2, x.take(0, 1));
        for (int t = 0; t < 3; t++) {
            due(behindTwo[t], x.back(t, w("b")));
        }
    }

    @Boundary(promise = 10, says = "BEYOND: no such TONGUE, or LAW.")
    void takeBeyond() {
        refuse(BEYOND, () -> x.take(0, 0));
        laws("a>b", "b>c");
        refuse(BEYOND, () -> x.take(0, 0));
        tongue(-1);
        tongue(-1);
        due(1, x.take(0, 0));
        due(1, x.take(1, 1));
        refuseOutside(2, tongue -> x.take(tongue, 0));
        refuseOutside(2, law -> x.take(1, law));
        due(BEYOND, x.own(1, 1));
        due(2, x.take(1, 0));
    }

    @Boundary(promise = 10, says = "FULL.")
    void takeFull() {
        laws("a>b", "b>c");
        tongue(-1, 0, 0, 0, 0, 0);
        tongue(0);
        due(6, x.take(0, 0));
        refuse(FULL, () -> x.take(0, 1));
        refuse(FULL, () -> x.take(0, 0));
        refuse(BEYOND, () -> x.take(0, 2));
        refuse(BEYOND, () -> x.take(0, -1));
        dueRow(0, 0, 0, 0, 0, 0, 0);
        due(BEYOND, x.own(0, 6));
        due(w("b"), x.form(1, w("a")));
        due(1, x.take(1, 1));
        due(5, x.leave(0));
        due(6, x.take(0, 1));
        due(w("c"), x.form(0, w("a")));
    }

    // ---- promise 11

    @Boundary(promise = 11, says = "The last one of the own LAWS of a TONGUE goes: how many it has.")
    void leaveTheLast() {
        laws("a>b", "b>c");
        tongue(-1, 0, 1, 0, 1, 0, 1);
        for (int left = 5; left >= 1; left--) {
            due(left, x.leave(0));
            due(BEYOND, x.own(0, left));
            due((left - 1) % 2, x.own(0, left - 1));
        }
        due(w("b"), x.form(0, w("a")));
        due(0, x.leave(0));
        due(w("a"), x.form(0, w("a")));
    }

    @Boundary(promise = 11, says = "The last one of the own LAWS of a TONGUE goes")
    void leaveChangesFormsAtOnce() {
        laws("a>b", "c>b");
        tongue(-1, 0, 1);
        tongue(0);
        due(3, x.back(0, w("b")));
        due(3, x.back(1, w("b")));
        due(1, x.leave(0));
        due(2, x.back(0, w("b")));
        due(2, x.back(1, w("b")));
        due(0, x.leave(0));
        due(1, x.back(1, w("b")));
        refuse(NONE, () -> x.leave(0));
        due(1, x.back(0, w("b")));
        due(1, x.back(1, w("b")));
    }

    @Boundary(promise = 11, says = "BEYOND.")
    void leaveBeyond() {
        refuse(BEYOND, () -> x.leave(0));
        laws("a>b");
        tongue(-1, 0);
        tongue(-1, 0);
        refuseOutside(2, tongue -> x.leave(tongue));
        due(0, x.own(0, 0));
        due(0, x.own(1, 0));
        due(0, x.leave(1));
    }

    @Boundary(promise = 11, says = "NONE: it has none.")
    void leaveNone() {
        laws("a>b", "b>c");
        tongue(-1);
        refuse(NONE, () -> x.leave(0));
        tongue(0, 1);
        due(1, x.take(0, 0));
        due(0, x.leave(0));
        refuse(NONE, () -> x.leave(0));
        refuse(NONE, () -> x.leave(0));
        due(1, x.own(1, 0));
        due(1, x.take(0, 0));
        due(w("c"), x.form(1, w("a")));
    }

    // ---- promise 12

    @Boundary(promise = 12, says = "The i-th own LAW of a TONGUE (from 0) changes its place with the next one: 1 if they are unlike LAWS, else 0.")
    void swapFirstAndLast() {
        laws("a>b", "b>c", "c>d");
        tongue(-1, 0, 1, 1, 1, 1, 2);
        due(w("d"), x.form(0, w("a")));
        due(1, x.swap(0, 0));
        dueRow(0, 1, 0, 1, 1, 1, 2);
        due(1, x.swap(0, 4));
        dueRow(0, 1, 0, 1, 1, 2, 1);
        due(w("d"), x.form(0, w("a")));
        due(0, x.swap(0, 2));
        dueRow(0, 1, 0, 1, 1, 2, 1);
        due(1, x.swap(0, 3));
        due(1, x.swap(0, 2));
        dueRow(0, 1, 0, 2, 1, 1, 1);
        due(w("c"), x.form(0, w("a")));
    }

    @Boundary(promise = 12, says = "changes its place with the next one")
    void swapChangesFormsAtOnce() {
        laws("a>b", "b>c");
        tongue(-1, 0, 1);
        tongue(0);
        due(3, x.back(0, w("c")));
        due(3, x.back(1, w("c")));
        due(1, x.swap(0, 0));
        for (int t = 0; t < 2; t++) {
            due(2, x.back(t, w("c")));
            due(1, x.back(t, w("b")));
        }
        refuse(BEYOND, () -> x.swap(0, 1));
        due(2, x.back(1, w("c")));
        due(1, x.swap(0, 0));
        due(3, x.back(1, w("c")));
        due(0, x.back(0, w("b")));
    }

    @Boundary(promise = 12, says = "1 if they are unlike LAWS, else 0")
    void swapOfOneLawOrTwo() {
        laws("a>b", "a>b");
        tongue(-1, 0, 0);
        tongue(-1, 0, 1);
        due(0, x.swap(0, 0));
        due(1, x.swap(1, 0));
        dueRow(0, 0, 0);
        dueRow(1, 1, 0);
    }

    @Boundary(promise = 12, says = "BEYOND: no such TONGUE, or it has not both.")
    void swapBeyond() {
        refuse(BEYOND, () -> x.swap(0, 0));
        laws("a>b", "b>c");
        tongue(-1);
        tongue(-1, 0);
        tongue(-1, 0, 1);
        refuse(BEYOND, () -> x.swap(0, 0));
        refuse(BEYOND, () -> x.swap(0, -1));
        refuseOutside(0, i -> x.swap(1, i));
        refuseOutside(1, i -> x.swap(2, i));
        refuseOutside(3, tongue -> x.swap(tongue, 0));
        dueRow(1, 0);
        dueRow(2, 0, 1);
        due(1, x.swap(2, 0));
        dueRow(2, 1, 0);
    }

    @Boundary(promise = 12, says = "it has not both")
    void swapBeyondTheSixth() {
        laws("a>b", "b>c");
        tongue(-1, 0, 0, 0, 0, 0, 1);
        refuseOutside(5, i -> x.swap(0, i));
        refuse(BEYOND, () -> x.swap(0, 6));
        due(1, x.swap(0, 4));
        dueRow(0, 0, 0, 0, 0, 1, 0);
        due(5, x.leave(0));
        // the one that went is no next one
        refuse(BEYOND, () -> x.swap(0, 4));
        dueRow(0, 0, 0, 0, 0, 1);
    }

    // ---- promise 13

    @Boundary(promise = 13, says = "The i-th own LAW of a TONGUE.")
    void ownFirstAndLast() {
        for (int i = 0; i < 24; i++) {
            law("a>b");
        }
        tongue(-1, 23, 0, 1, 2, 3, 22);
        due(23, x.own(0, 0));
        due(22, x.own(0, 5));
        tongue(0, 7);
        due(7, x.own(1, 0));
    }

    @Boundary(promise = 13, says = "BEYOND: no such TONGUE, or LAW of its own.")
    void ownBeyond() {
        refuse(BEYOND, () -> x.own(0, 0));
        laws("a>b");
        tongue(-1, 0);
        tongue(0);
        refuseOutside(2, tongue -> x.own(tongue, 0));
        refuseOutside(1, i -> x.own(0, i));
        // a LAW of the one above is none of its own
        refuse(BEYOND, () -> x.own(1, 0));
        due(0, x.own(0, 0));
        x.leave(0);
        refuse(BEYOND, () -> x.own(0, 0));
    }

    @Boundary(promise = 13, says = "BEYOND: no such TONGUE, or LAW of its own.")
    void ownBeyondTheSixth() {
        laws("a>b");
        tongue(-1, 0, 0, 0, 0, 0, 0);
        due(0, x.own(0, 5));
        refuseOutside(6, i -> x.own(0, i));
    }

    // ---- promise 14

    @Boundary(promise = 14, says = "THE FORM of a WORD in a TONGUE (-1: the WORD).")
    void formOfShortestAndLongest() {
        laws("a>b", "b>bb");
        tongue(-1, 0, 1);
        due(0, x.form(-1, 0));
        due(LAST_WORD, x.form(-1, LAST_WORD));
        due(0, x.form(0, 0));
        due(LAST_WORD, x.form(0, LAST_WORD));
        due(w("bbbbbbbb"), x.form(0, w("abab")));
        due(w("bbbbb"), x.form(0, w("ababa")));
    }

    @Boundary(promise = 14, says = "BEYOND: no such TONGUE, or word tells none.")
    void formBeyond() {
        refuseEach(BEYOND, new int[] {MIN, -2, 0, 1, MAX}, tongue -> x.form(tongue, 0));
        tongue(-1);
        tongue(0);
        refuseEach(BEYOND, new int[] {MIN, -2, 2, 8, MAX}, tongue -> x.form(tongue, 0));
        refuseNoWords(word -> x.form(-1, word));
        refuseNoWords(word -> x.form(1, word));
        due(w("a"), x.form(1, w("a")));
        due(0, x.form(-1, 0));
    }

    // ---- promise 15

    @Boundary(promise = 15, says = "The least STEM whose FORM in a TONGUE would be another one if its i-th own LAW and the next one had changed places.")
    void orderLeastAndGreatest() {
        laws("a>b", "b>c", FROM_THE_ENDS, "f>b");
        tongue(-1, 0, 1);
        due(w("a"), x.order(0, 0));
        tongue(-1, 2, 2);
        tongue(1, 3, 1);
        due(LAST_STEM, x.order(2, 0));
        tongue(-1, 2, 2, 3, 1);
        due(LAST_STEM, x.order(3, 2));
        dueRow(0, 0, 1);
        dueRow(2, 3, 1);
        due(w("c"), x.form(0, w("a")));
        due(0, x.told(9));
    }

    @Boundary(promise = 15, says = "The least STEM whose FORM in a TONGUE would be another one")
    void orderOfLastTwoLaws() {
        laws("a>b", "b>c", "d>d");
        tongue(-1, 2, 2, 2, 2, 0, 1);
        due(w("a"), x.order(0, 4));
        due(NONE, x.order(0, 3));
        // the FORM is asked, not what is WRITTEN
        hideAllBut(0, -1);
        due(w("a"), x.order(0, 4));
        dueRow(0, 2, 2, 2, 2, 0, 1);
    }

    @Boundary(promise = 15, says = "The least STEM whose FORM in a TONGUE would be another one")
    void orderUnderAnotherTongue() {
        laws("a>b", "b>c", "c>d", "d>d");
        tongue(-1, 0);
        tongue(0, 0, 1);
        // all a have become b above
        due(NONE, x.order(1, 0));
        tongue(0, 1, 2);
        due(w("a"), x.order(2, 0));
        due(0, x.leave(0));
        due(w("a"), x.order(1, 0));
        due(w("b"), x.order(2, 0));
        due(1, x.take(0, 3));
        due(w("b"), x.order(2, 0));
    }

    @Boundary(promise = 15, says = "BEYOND as of swap().")
    void orderBeyond() {
        refuse(BEYOND, () -> x.order(0, 0));
        laws("a>b", "b>c");
        tongue(-1);
        tongue(-1, 0);
        tongue(-1, 0, 1);
        refuse(BEYOND, () -> x.order(0, 0));
        refuse(BEYOND, () -> x.order(0, -1));
        refuseOutside(0, i -> x.order(1, i));
        refuseOutside(1, i -> x.order(2, i));
        refuseOutside(3, tongue -> x.order(tongue, 0));
        due(w("a"), x.order(2, 0));
    }

    @Boundary(promise = 15, says = "BEYOND as of swap().")
    void orderBeyondTheSixth() {
        laws("a>b", "b>c");
        tongue(-1, 1, 1, 1, 1, 0, 1);
        refuseOutside(5, i -> x.order(0, i));
        due(w("a"), x.order(0, 4));
        x.leave(0);
        refuse(BEYOND, () -> x.order(0, 4));
    }

    @Boundary(promise = 15, says = "NONE: there is none.")
    void orderNone() {
        laws("a>b", "c>d", FROM_THE_ENDS, "f>b", "b>c");
        tongue(-1, 0, 1, 1);
        refuse(NONE, () -> x.order(0, 0));
        refuse(NONE, () -> x.order(0, 1));
        dueRow(0, 0, 1, 1);
        tongue(-1, 2, 2, 2);
        // a WORD of seven SOUNDS would have another FORM, but no STEM
        tongue(1, 3, 4);
        due(w("aaacaaa"), x.form(2, w("fffffff")));
        refuse(NONE, () -> x.order(2, 0));
        dueRow(2, 3, 4);
        due(w("aaacaaa"), x.form(2, w("fffffff")));
    }

    // ---- promise 16

    @Boundary(promise = 16, says = "A SOUND has a SIGN in the SCRIPT of a TONGUE (-1: none): what it had (-1: none; no finding).")
    void scriptFirstAndLast() {
        tongue(-1);
        tongue(0);
        due(0, x.script(0, 0, -1));
        due(-1, x.script(0, 0, -1));
        due(-1, x.script(0, 0, 5));
        due(5, x.script(0, 0, 0));
        due(5, x.script(0, 5, 0));
        due(0, x.script(0, 5, -1));
        due(-1, x.script(0, 5, 5));
        due(0, x.told(9));
        due(0, x.script(1, 0, 0));
    }

    @Boundary(promise = 16, says = "BEYOND: no such TONGUE, SOUND, or SIGN.")
    void scriptBeyond() {
        refuse(BEYOND, () -> x.script(0, 0, 0));
        tongue(-1);
        tongue(0);
        refuseOutside(2, tongue -> x.script(tongue, 0, 1));
        refuseOutside(6, sound -> x.script(1, sound, 1));
        refuseEach(BEYOND, new int[] {MIN, -2, 6, MAX}, sign -> x.script(1, 0, sign));
        refuseEach(BEYOND, new int[] {MIN, -2, 6, MAX}, sign -> x.script(1, 5, sign));
        due(w("abcdef"), x.written(1, w("abcdef")));
        due(w("abcdef"), x.written(0, w("abcdef")));
        due(0, x.script(1, 0, 5));
        due(5, x.script(1, 5, -1));
        due(w("fbcde"), x.written(1, w("abcdef")));
    }

    // ---- promise 17

    @Boundary(promise = 17, says = "THE FORM of a WORD in a TONGUE, WRITTEN.")
    void writtenOfShortestAndLongest() {
        laws("a>f", "f>ff/_#");
        tongue(-1, 0);
        tongue(0, 1);
        x.script(1, 5, 0);
        due(0, x.written(1, 0));
        due(w("aa"), x.written(1, w("a")));
        due(LAST_WORD, x.written(0, w("aaaaaaaa")));
        due(w("aaaaaaaa"), x.written(1, w("aaaaaaaa")));
        due(w("aaaaaaaa"), x.written(1, w("aaaaaaa")));
    }

    @Boundary(promise = 17, says = "BEYOND: no such TONGUE, or word tells none.")
    void writtenBeyond() {
        refuse(BEYOND, () -> x.written(0, 0));
        // only form() has a MOTHER
        refuse(BEYOND, () -> x.written(-1, 0));
        tongue(-1);
        tongue(0);
        refuseOutside(2, tongue -> x.written(tongue, 0));
        refuseNoWords(word -> x.written(1, word));
        due(LAST_WORD, x.written(1, LAST_WORD));
        due(0, x.written(0, 0));
    }

    // ---- promise 18

    @Boundary(promise = 18, says = "How many STEMS have a FORM in a TONGUE that is, WRITTEN, what a number tells.")
    void backOfNoneAndAll() {
        laws("a>b", "f>ff");
        tongue(-1);
        due(0, x.back(0, 0));
        due(1, x.back(0, w("a")));
        due(1, x.back(0, LAST_STEM));
        due(0, x.back(0, w("aaaaaa")));
        tongue(-1, 0);
        due(0, x.back(1, w("a")));
        due(32, x.back(1, w("bbbbb")));
        // four f become eight, five stay
        tongue(-1, 1);
        due(1, x.back(2, LAST_WORD));
        due(1, x.back(2, LAST_STEM));
        due(0, x.back(2, w("f")));
        due(0, x.back(2, w("fffffff")));
        hideAllBut(2, -1);
        due(ALL_STEMS, x.back(2, 0));
        due(0, x.back(2, w("f")));
        due(0, x.told(9));
    }

    @Boundary(promise = 18, says = "BEYOND: no such TONGUE, or number tells no WORD.")
    void backBeyond() {
        refuse(BEYOND, () -> x.back(0, 0));
        refuse(BEYOND, () -> x.back(-1, 1));
        tongue(-1);
        tongue(0);
        refuseOutside(2, tongue -> x.back(tongue, w("a")));
        refuseNoWords(number -> x.back(1, number));
        due(0, x.back(1, LAST_WORD));
        due(0, x.back(1, 0));
        due(1, x.back(1, w("a")));
    }

    // ---- promise 19

    @Boundary(promise = 19, says = "The i-th of these (from 0), by numbers.")
    void stemFirstAndLast() {
        laws("a>b");
        tongue(-1, 0);
        due(w("aaaaa"), x.stem(0, w("bbbbb"), 0));
        due(w("aaaab"), x.stem(0, w("bbbbb"), 1));
        due(w("bbbbb"), x.stem(0, w("bbbbb"), 31));
        due(NONE, x.stem(0, w("bbbbb"), 32));
        hideAllBut(0, -1);
        due(w("a"), x.stem(0, 0, 0));
        due(LAST_STEM - 1, x.stem(0, 0, ALL_STEMS - 2));
        due(LAST_STEM, x.stem(0, 0, ALL_STEMS - 1));
    }

    @Boundary(promise = 19, says = "BEYOND as of back(), or i is below 0.")
    void stemBeyond() {
        refuse(BEYOND, () -> x.stem(0, w("a"), 0));
        refuse(BEYOND, () -> x.stem(-1, w("a"), 0));
        tongue(-1);
        tongue(0);
        refuseOutside(2, tongue -> x.stem(tongue, w("a"), 0));
        refuseNoWords(number -> x.stem(1, number, 0));
        refuseEach(BEYOND, new int[] {MIN, -1}, i -> x.stem(1, w("a"), i));
        // of none of these there is any
        refuseEach(BEYOND, new int[] {MIN, -1}, i -> x.stem(1, LAST_WORD, i));
        due(w("a"), x.stem(1, w("a"), 0));
    }

    @Boundary(promise = 19, says = "NONE: there are not so many.")
    void stemNone() {
        laws("a>b");
        tongue(-1, 0);
        due(w("b"), x.stem(0, w("b"), 1));
        refuse(NONE, () -> x.stem(0, w("b"), 2));
        refuse(NONE, () -> x.stem(0, w("b"), MAX));
        refuse(NONE, () -> x.stem(0, w("a"), 0));
        refuse(NONE, () -> x.stem(0, 0, 0));
        refuse(NONE, () -> x.stem(0, LAST_WORD, 0));
        hideAllBut(0, -1);
        due(LAST_STEM, x.stem(0, 0, ALL_STEMS - 1));
        refuse(NONE, () -> x.stem(0, 0, ALL_STEMS));
        refuse(NONE, () -> x.stem(0, 0, MAX));
        due(w("a"), x.stem(0, 0, 0));
    }
}

/** Boundary cases of PAIRS and of FEWEST (promises 30 to 34). */
final class PairBoundaries extends Boundaries {

    private void dueSimple(int i, int from, int to, int place) {
        due(from, x.simple(i, 0));
        due(to, x.simple(i, 1));
        due(place, x.simple(i, 2));
    }

    /** Pairs each WORD with the one behind it. */
    private void pairs(String... words) {
        x.unpair();
        for (int i = 0; i + 1 < words.length; i += 2) {
            due(i / 2 + 1, x.pair(w(words[i]), w(words[i + 1])));
        }
    }

    @Boundary(promise = Boundary.TERMS, says = "A SIMPLE LAW: FROM is a SOUND, TO another SOUND or nothing, with a / and just one MARK in the PLACE, "
        + "or without any PLACE, without !.")
    void simpleLawsHaveOneMarkAtMost() {
        // V>b would be one LAW, but is not simple
        pairs("a", "b", "e", "b");
        due(2, x.fewest());
        dueSimple(0, 0, 1, 0);
        dueSimple(1, 4, 1, 0);
        // b>c/a_a has two MARKS
        pairs("aba", "aca", "abd", "abd", "dba", "dba");
        due(2, x.fewest());
        // no more SOUNDS come from a SIMPLE LAW
        pairs("a", "aa");
        due(NONE, x.fewest());
        pairs("", "a");
        due(NONE, x.fewest());
        pairs("a", "bc");
        due(NONE, x.fewest());
    }

    @Boundary(promise = Boundary.TERMS, says = "They are in order by FROM, then by TO (nothing first, then by SOUNDS), then: without a PLACE, "
        + "MARKS ahead (a to f, V, C, #), MARKS behind (likewise).")
    void firstAndLastOfSimpleLaws() {
        pairs("a", "");
        due(1, x.fewest());
        dueSimple(0, 0, -1, 0);
        pairs("ff", "fe", "ffb", "ffb");
        due(1, x.fewest());
        dueSimple(0, 5, 4, 18);
        pairs("f", "", "ff", "f");
        due(1, x.fewest());
        // ahead of # behind
        dueSimple(0, 5, -1, 9);
        due(0, x.told(9));
    }

    @Boundary(promise = Boundary.TERMS, says = "MARKS ahead (a to f, V, C, #), MARKS behind (likewise)")
    void eachMarkAheadAndBehind() {
        String[] others = {"a", "b", "c", "d", "e", "f"};
        for (int mark = 0; mark < 6; mark++) {
            int sound = (mark + 1) % 6;
            int to = (mark + 2) % 6;
            String from = others[sound];
            String like = others[mark];
            String kept = others[(mark + 4) % 6];
            // both kinds of neighbours that V or C could tell apart stay
            pairs(like + from, like + others[to], kept + from, kept + from, from, from);
            x.vowel(mark, true);
            x.vowel((mark + 4) % 6, true);
            due(1, x.fewest());
            dueSimple(0, sound, to, 1 + mark);
            pairs(from + like, others[to] + like, from + kept, from + kept, from, from);
            due(1, x.fewest());
            dueSimple(0, sound, to, 10 + mark);
            x.vowel(mark, false);
            x.vowel((mark + 4) % 6, false);
        }
    }

    @Boundary(promise = Boundary.TERMS, says = "MARKS ahead (a to f, V, C, #), MARKS behind (likewise)")
    void marksOfManyAheadAndBehind() {
        pairs("ab", "ac", "eb", "ec", "db", "db", "b", "b");
        dueSimple(0, 1, 2, 7);
        pairs("da", "db", "fa", "fb", "ea", "ea", "a", "a");
        dueSimple(0, 0, 1, 8);
        pairs("a", "b", "da", "da", "ea", "ea");
        dueSimple(0, 0, 1, 9);
        pairs("ba", "ca", "be", "ce", "bd", "bd", "b", "b");
        dueSimple(0, 1, 2, 16);
        pairs("ad", "bd", "af", "bf", "ae", "ae", "a", "a");
        dueSimple(0, 0, 1, 17);
        pairs("da", "db", "dad", "dad", "dae", "dae");
        dueSimple(0, 0, 1, 18);
    }

    @Boundary(promise = Boundary.TERMS, says = "MARKS behind (likewise)")
    void noPlaceBehindTheLastMark() {
        pairs("ab", "db", "fac", "fdc");
        due(1, x.fewest());
        // ahead of b if it is the first, ahead of c if not: no MARK tells that, and no two do
        pairs("ab", "db", "fac", "fdc", "ac", "ac", "fab", "fab");
        due(NONE, x.fewest());
    }

    @Boundary(promise = Boundary.TERMS, says = "PAIRS (at most 6) are each of a WORD and a WORD.")
    void atMostSixPairs() {
        due(1, x.pair(0, 0));
        due(2, x.pair(LAST_WORD, LAST_WORD));
        due(3, x.pair(w("b"), w("b")));
        due(4, x.pair(w("c"), w("c")));
        due(5, x.pair(w("d"), w("d")));
        due(0, x.fewest());
        // also the sixth is asked
        due(6, x.pair(w("a"), w("e")));
        due(1, x.fewest());
        due(w("e"), x.proof(5));
        refuse(FULL, () -> x.pair(w("a"), w("f")));
        due(1, x.fewest());
        dueSimple(0, 0, 4, 0);
        due(BEYOND, x.proof(6));
    }

    @Boundary(promise = Boundary.TERMS, says = "FEWEST: the shortest row of 0, 1 or 2 SIMPLE LAWS that, RUN in order, makes of the first WORD of each "
        + "PAIR its other one; of several the first (by the first LAW, then the second).")
    void fewestIsTwoAtMost() {
        due(0, x.fewest());
        pairs("abc", "abc");
        due(0, x.fewest());
        pairs("abc", "abd");
        due(1, x.fewest());
        pairs("abc", "aed");
        due(2, x.fewest());
        pairs("abc", "fed");
        due(NONE, x.fewest());
        pairs("aaaaaaaa", "");
        due(1, x.fewest());
        pairs("abababab", "");
        due(2, x.fewest());
        pairs("abcabcab", "");
        due(NONE, x.fewest());
    }

    @Boundary(promise = Boundary.TERMS, says = "of several the first (by the first LAW, then the second)")
    void fewestIsTheFirstOfSeveral() {
        // either can be the first one
        pairs("ab", "cd");
        due(2, x.fewest());
        dueSimple(0, 0, 2, 0);
        dueSimple(1, 1, 3, 0);
        // f>a ahead of e>f, or e would become a, too
        pairs("e", "f", "f", "a");
        due(2, x.fewest());
        dueSimple(0, 5, 0, 0);
        dueSimple(1, 4, 5, 0);
        // all a, those behind an a, or those behind a VOWEL
        pairs("a", "a", "aa", "a");
        due(1, x.fewest());
        dueSimple(0, 0, -1, 1);
    }

    @Boundary(promise = Boundary.TERMS, says = "by TO (nothing first, then by SOUNDS)")
    void firstAndLastTo() {
        // the first of two LAWS to f, to a and to nothing
        pairs("a", "f", "b", "c");
        due(2, x.fewest());
        dueSimple(0, 0, 5, 0);
        dueSimple(1, 1, 2, 0);
        pairs("b", "a", "c", "d");
        due(2, x.fewest());
        dueSimple(0, 1, 0, 0);
        dueSimple(1, 2, 3, 0);
        pairs("ab", "b", "cb", "db");
        due(2, x.fewest());
        dueSimple(0, 0, -1, 0);
        dueSimple(1, 2, 3, 0);
        // one SOUND is lost ahead of others, between them, behind them
        pairs("ab", "b");
        dueSimple(0, 0, -1, 0);
        pairs("bac", "bc");
        dueSimple(0, 0, -1, 0);
        pairs("bccccccd", "bcccccc");
        dueSimple(0, 3, -1, 0);
    }

    // ---- promise 30

    @Boundary(promise = 30, says = "A new PAIR: how many there are.")
    void pairOfShortestAndLongest() {
        due(1, x.pair(0, 0));
        due(2, x.pair(LAST_WORD, 0));
        due(1, x.fewest());
        dueSimple(0, 5, -1, 0);
        due(0, x.proof(1));
        // a PAIR may come twice
        due(3, x.pair(LAST_WORD, 0));
        due(3, x.told(4));
        due(1, x.fewest());
    }

    @Boundary(promise = 30, says = "BEYOND: one of both tells no WORD.")
    void pairBeyond() {
        refuseNoWords(word -> x.pair(word, 0));
        refuseNoWords(word -> x.pair(0, word));
        refuse(BEYOND, () -> x.pair(7, 7));
        due(0, x.fewest());
        due(1, x.pair(LAST_WORD, LAST_WORD));
        refuse(BEYOND, () -> x.pair(1, 7));
        due(0, x.fewest());
        due(LAST_WORD, x.proof(0));
        due(BEYOND, x.proof(1));
    }

    @Boundary(promise = 30, says = "FULL.")
    void pairFull() {
        for (int i = 1; i <= 6; i++) {
            due(i, x.pair(w("a"), w("b")));
        }
        refuse(FULL, () -> x.pair(w("a"), w("c")));
        refuse(FULL, () -> x.pair(0, 0));
        refuse(BEYOND, () -> x.pair(7, 0));
        refuse(BEYOND, () -> x.pair(0, -1));
        due(1, x.fewest());
        due(w("b"), x.proof(5));
        due(BEYOND, x.proof(6));
        due(6, x.unpair());
        due(1, x.pair(w("a"), w("c")));
        due(w("c"), x.proof(0));
    }

    // ---- promise 31

    @Boundary(promise = 31, says = "All PAIRS go: how many there were.")
    void unpairNoneToAll() {
        due(0, x.unpair());
        due(0, x.unpair());
        x.pair(w("a"), w("aa"));
        due(NONE, x.fewest());
        due(1, x.unpair());
        due(0, x.fewest());
        due(BEYOND, x.proof(0));
        for (int i = 1; i <= 6; i++) {
            due(i, x.pair(0, 0));
        }
        due(6, x.unpair());
        due(0, x.told(4));
        due(0, x.unpair());
    }

    // ---- promise 32

    @Boundary(promise = 32, says = "How many SIMPLE LAWS FEWEST has.")
    void fewestOfNoPairs() {
        due(0, x.fewest());
        pairs("", "");
        due(0, x.fewest());
        pairs("", "", "a", "");
        due(1, x.fewest());
        pairs("", "", "a", "", "b", "");
        due(2, x.fewest());
        due(0, x.told(9));
    }

    @Boundary(promise = 32, says = "How many SIMPLE LAWS FEWEST has.")
    void fewestHeedsVowels() {
        pairs("ab", "ac", "eb", "ec", "db", "db", "b", "b");
        due(1, x.fewest());
        x.vowel(4, false);
        due(2, x.fewest());
        x.vowel(4, true);
        due(1, x.fewest());
        refuse(BEYOND, () -> x.vowel(6, false));
        due(1, x.fewest());
    }

    @Boundary(promise = 32, says = "NONE: there are none.")
    void fewestNone() {
        pairs("a", "", "b", "");
        due(2, x.fewest());
        due(3, x.pair(w("c"), 0));
        refuse(NONE, () -> x.fewest());
        refuse(NONE, () -> x.fewest());
        due(3, x.unpair());
        due(0, x.fewest());
        // one WORD can't become two
        pairs("a", "b", "a", "c");
        refuse(NONE, () -> x.fewest());
        // it would be longer
        pairs("aaaaaaa", "aaaaaaaa");
        refuse(NONE, () -> x.fewest());
    }

    // ---- promise 33

    @Boundary(promise = 33, says = "Of the i-th LAW of FEWEST (from 0): 0 FROM, 1 TO (-1: nothing; no finding), 2 0 without a PLACE, 1 and the MARK for "
        + "one ahead, 10 and the MARK for one behind (MARKS as of about()).")
    void simpleFirstAndLast() {
        pairs("ab", "");
        due(2, x.fewest());
        dueSimple(0, 0, -1, 0);
        dueSimple(1, 1, -1, 0);
        pairs("ffa", "fea", "f", "f", "fff", "fef");
        due(2, x.fewest());
        due(0, x.told(9));
        pairs("aa", "ab", "ca", "ca", "ea", "ea", "a", "a");
        due(1, x.fewest());
        dueSimple(0, 0, 1, 1);
        pairs("fc", "ec", "f", "f", "fd", "fd");
        due(1, x.fewest());
        dueSimple(0, 5, 4, 12);
        due(0, x.told(9));
    }

    @Boundary(promise = 33, says = "BEYOND: i is below 0, or another what.")
    void simpleBeyond() {
        // without any PAIR, too, ahead of NONE
        refuseOutside(3, what -> x.simple(0, what));
        refuseEach(BEYOND, new int[] {MIN, -1}, i -> x.simple(i, 0));
        pairs("ab", "cd");
        refuseOutside(3, what -> x.simple(1, what));
        refuseOutside(3, what -> x.simple(2, what));
        refuseEach(BEYOND, new int[] {MIN, -1}, i -> x.simple(i, 2));
        dueSimple(1, 1, 3, 0);
        pairs("a", "aa");
        refuse(BEYOND, () -> x.simple(-1, 0));
        refuse(BEYOND, () -> x.simple(0, 3));
        // as far from its own as what the other LAW is
        pairs("ab", "cd");
        refuse(BEYOND, () -> x.simple(1, -3));
        refuse(BEYOND, () -> x.simple(0, 4));
    }

    @Boundary(promise = 33, says = "NONE: there is no FEWEST, or it has not so many.")
    void simpleNone() {
        refuse(NONE, () -> x.simple(0, 0));
        pairs("a", "a");
        refuse(NONE, () -> x.simple(0, 2));
        pairs("a", "b");
        due(0, x.simple(0, 0));
        refuse(NONE, () -> x.simple(1, 0));
        refuse(NONE, () -> x.simple(MAX, 0));
        pairs("ab", "cd");
        due(1, x.simple(1, 0));
        refuse(NONE, () -> x.simple(2, 0));
        refuse(NONE, () -> x.simple(MAX, 2));
        // as many times three as wrap around to the first one
        refuse(NONE, () -> x.simple(1431655765, 1));
        pairs("a", "aa");
        refuse(NONE, () -> x.simple(0, 0));
        refuse(NONE, () -> x.simple(1, 0));
        // what one LAW told is forgotten with the PAIRS
        pairs();
        refuse(NONE, () -> x.simple(0, 0));
    }

    // ---- promise 34

    @Boundary(promise = 34, says = "What the first WORD of PAIR i is behind the first LAW of FEWEST (the WORD itself, if it has none).")
    void proofOfNoneOneAndTwo() {
        pairs("abc", "abc", "", "");
        due(w("abc"), x.proof(0));
        due(0, x.proof(1));
        pairs("abc", "abd", "c", "d");
        due(w("abd"), x.proof(0));
        due(w("d"), x.proof(1));
        pairs("ab", "cd", "", "", "b", "d");
        due(w("cb"), x.proof(0));
        due(0, x.proof(1));
        due(w("b"), x.proof(2));
        pairs("ffffffff", "");
        due(0, x.proof(0));
        due(0, x.told(9));
    }

    @Boundary(promise = 34, says = "BEYOND: no such PAIR.")
    void proofBeyond() {
        refuseOutside(0, i -> x.proof(i));
        pairs("a", "b", "b", "b");
        due(w("b"), x.proof(1));
        refuseOutside(2, i -> x.proof(i));
        // also if there is no FEWEST
        pairs("a", "aa");
        refuseOutside(1, i -> x.proof(i));
        pairs("a", "a", "a", "a", "a", "a", "a", "a", "a", "a", "a", "a");
        due(w("a"), x.proof(5));
        refuseOutside(6, i -> x.proof(i));
        x.unpair();
        refuseOutside(0, i -> x.proof(i));
    }

    @Boundary(promise = 34, says = "NONE: there is no FEWEST.")
    void proofNone() {
        pairs("a", "aa", "b", "b");
        refuse(NONE, () -> x.proof(0));
        refuse(NONE, () -> x.proof(1));
        refuse(BEYOND, () -> x.proof(2));
        pairs("a", "", "b", "");
        due(0, x.proof(0));
        due(w("b"), x.proof(1));
        due(3, x.pair(w("c"), 0));
        refuse(NONE, () -> x.proof(0));
        refuse(NONE, () -> x.proof(2));
    }
}

/** Boundary cases of MATCHES, FINDS, MOTHERS and what was LENT (promises 20 to 29). */
final class MatchBoundaries extends Boundaries {

    /** Two TONGUES (a>b in the first), and a MATCH of which b is known in both from 10 to 19, in the first alone then. */
    private void makeMatch() {
        laws("a>b");
        tongue(-1, 0);
        tongue(-1);
        matches(1);
        due(0, x.find(0, 0, w("b"), 10));
        due(1, x.find(0, 1, w("b"), 10));
        due(2, x.find(0, 1, -1, 20));
    }

    /** TONGUES without LAWS, in each of which the same is known of a new MATCH in the YEAR 0. */
    private void makeAlike(int tongues, int number) {
        matches(1);
        for (int t = 0; t < tongues; t++) {
            due(t, x.tongue(-1));
            due(t, x.find(0, t, number, 0));
        }
    }

    @Boundary(promise = Boundary.TERMS, says = "MATCHES 0, 1, .. (at most 10).")
    void atMostTenMatches() {
        for (int i = 0; i < 10; i++) {
            due(BEYOND, x.mothers(i, 0));
            due(i, x.match());
            due(ALL_STEMS, x.mothers(i, 0));
        }
        due(FULL, x.match());
        due(BEYOND, x.mothers(10, 0));
        due(10, x.told(2));
    }

    @Boundary(promise = Boundary.TERMS, says = "FINDS 0, 1, .. (at most 60) tell, in a YEAR, that a MATCH is in a TONGUE what a number tells "
        + "(as WRITTEN), or that what was told is taken back.")
    void atMostSixtyFinds() {
        tongue(-1);
        tongue(-1);
        matches(2);
        for (int i = 0; i < 60; i++) {
            // those that take back are FINDS, too
            due(i, x.find(i % 2, i / 2 % 2, i % 3 == 0 ? -1 : w("c"), i));
        }
        refuse(FULL, () -> x.find(0, 0, w("d"), 59));
        refuse(FULL, () -> x.find(1, 1, -1, 999));
        due(w("c"), x.known(1, 1, 999));
        due(NONE, x.known(0, 0, 0));
        due(w("c"), x.known(1, 0, 1));
    }

    @Boundary(promise = Boundary.TERMS, says = "what a number tells (as WRITTEN)")
    void findsAreOfWhatIsWritten() {
        makeAlike(1, w("b"));
        due(1, x.mothers(0, 0));
        due(w("b"), x.mother(0, 0, 0));
        x.script(0, 1, 2);
        due(0, x.mothers(0, 0));
        x.script(0, 0, 1);
        due(w("a"), x.mother(0, 0, 0));
        hideAllBut(0, -1);
        due(1, x.find(0, 0, 0, 0));
        due(ALL_STEMS, x.mothers(0, 0));
        due(0, x.known(0, 0, 0));
    }

    @Boundary(promise = Boundary.TERMS, says = "AS KNOWN in a YEAR: of a MATCH and a TONGUE what the latest FIND in that YEAR or ahead of it "
        + "tells; nothing, if there is none, or it takes back.")
    void asKnownAroundAYear() {
        tongue(-1);
        matches(1);
        due(NONE, x.known(0, 0, 999));
        x.find(0, 0, w("a"), 1);
        x.find(0, 0, w("b"), 2);
        x.find(0, 0, w("c"), 2);
        x.find(0, 0, -1, 3);
        x.find(0, 0, 0, 5);
        x.find(0, 0, w("d"), 999);
        due(NONE, x.known(0, 0, 0));
        due(w("a"), x.known(0, 0, 1));
        due(w("c"), x.known(0, 0, 2));
        due(NONE, x.known(0, 0, 3));
        due(NONE, x.known(0, 0, 4));
        due(0, x.known(0, 0, 5));
        due(0, x.known(0, 0, 998));
        due(w("d"), x.known(0, 0, 999));
    }

    @Boundary(promise = Boundary.TERMS, says = "MOTHERS of a MATCH as known in a YEAR: all STEMS whose FORM, WRITTEN, is what is known in each "
        + "TONGUE in which something is known of it (all STEMS, if nothing is).")
    void mothersIfNothingIsKnown() {
        matches(1);
        // without any TONGUE, too
        due(ALL_STEMS, x.mothers(0, 0));
        due(w("a"), x.mother(0, 0, 0));
        makeMatch();
        due(ALL_STEMS, x.mothers(0, 9));
        due(1, x.mothers(0, 10));
        due(w("b"), x.mother(0, 10, 0));
        due(2, x.mothers(0, 20));
        due(3, x.find(0, 0, -1, 21));
        due(ALL_STEMS, x.mothers(0, 21));
        due(ALL_STEMS, x.mothers(1, 999));
    }

    @Boundary(promise = Boundary.TERMS, says = "THE BEST: the STEM with which this is so in the most TONGUES, of several the least number.")
    void bestOfSeveral() {
        tongue(-1);
        tongue(-1);
        tongue(-1);
        matches(1);
        due(w("a"), x.best(0, 0));
        x.find(0, 0, w("f"), 1);
        due(w("f"), x.best(0, 1));
        x.find(0, 1, w("e"), 2);
        due(w("e"), x.best(0, 2));
        x.find(0, 2, w("f"), 3);
        due(w("f"), x.best(0, 3));
        x.find(0, 0, 0, 4);
        due(w("e"), x.best(0, 4));
        x.find(0, 1, 0, 5);
        x.find(0, 2, LAST_WORD, 5);
        due(w("a"), x.best(0, 5));
    }

    @Boundary(promise = Boundary.TERMS, says = "BREAKERS: TONGUES in which something is known, and it isn't so with THE BEST.")
    void breakersAreKnown() {
        makeMatch();
        due(0, x.breakers(0, 9));
        due(0, x.breakers(0, 10));
        due(3, x.find(0, 0, w("a"), 30));
        due(w("a"), x.best(0, 30));
        due(1, x.breakers(0, 30));
        // in the second TONGUE nothing is known, what was told there is taken back
        due(4, x.find(0, 1, 0, 40));
        due(w("a"), x.best(0, 40));
        due(3, x.breakers(0, 40));
    }

    @Boundary(promise = Boundary.TERMS, says = "behind k of the own LAWS of the BREAKER (k from 0 to how many it has)")
    void lentBehindNoneToAll() {
        laws("c>d", "a>c");
        tongue(-1, 0, 0, 0, 0, 0, 0);
        for (int t = 1; t < 7; t++) {
            tongue(-1);
        }
        tongue(-1, 1);
        matches(1);
        x.find(0, 1, w("a"), 0);
        x.find(0, 2, w("a"), 0);
        x.find(0, 7, w("c"), 0);
        x.find(0, 0, w("c"), 0);
        due(w("a"), x.best(0, 0));
        due(1, x.breakers(0, 0));
        due(76, x.lent(0, 0, 0));
        x.find(0, 0, w("d"), 1);
        due(70, x.lent(0, 1, 0));
        x.find(0, 0, w("e"), 2);
        due(NONE, x.lent(0, 2, 0));
        // without own LAWS there is only k 0
        for (int left = 5; left >= 0; left--) {
            due(left, x.leave(0));
        }
        due(70, x.lent(0, 0, 0));
        due(NONE, x.lent(0, 1, 0));
    }

    @Boundary(promise = Boundary.TERMS, says = "WRITTEN in the SCRIPT of the BREAKER")
    void lentInTheScriptOfTheBreaker() {
        makeAlike(3, w("a"));
        due(3, x.find(0, 2, 0, 1));
        due(4, x.breakers(0, 1));
        due(NONE, x.lent(0, 1, 2));
        laws("a>b");
        due(1, x.take(2, 0));
        hideAllBut(2, 1);
        // a is hidden there: behind its LAW nothing is left of it
        due(1, x.lent(0, 1, 2));
    }

    // ---- promise 20

    @Boundary(promise = 20, says = "A new MATCH: its number.")
    void matchFirstAndLast() {
        for (int i = 0; i < 10; i++) {
            due(i, x.match());
            due(i + 1, x.told(2));
        }
    }

    @Boundary(promise = 20, says = "FULL.")
    void matchFull() {
        matches(9);
        due(9, x.match());
        refuse(FULL, () -> x.match());
        refuse(FULL, () -> x.match());
        tongue(-1);
        due(0, x.find(9, 0, w("a"), 0));
        due(BEYOND, x.find(10, 0, w("a"), 0));
        due(1, x.mothers(9, 0));
    }

    // ---- promise 21

    @Boundary(promise = 21, says = "A new FIND (number -1: it takes back): its number.")
    void findFirstAndLastNumbers() {
        tongue(-1);
        matches(1);
        // there is nothing to take back yet
        due(0, x.find(0, 0, -1, 0));
        due(NONE, x.known(0, 0, 0));
        due(1, x.find(0, 0, 0, 0));
        due(0, x.known(0, 0, 0));
        due(2, x.find(0, 0, 1, 0));
        due(1, x.known(0, 0, 0));
        due(3, x.find(0, 0, LAST_WORD, 0));
        due(LAST_WORD, x.known(0, 0, 0));
        due(4, x.find(0, 0, -1, 0));
        due(NONE, x.known(0, 0, 0));
        due(5, x.told(3));
    }

    @Boundary(promise = 21, says = "BEYOND: no such MATCH, TONGUE, YEAR, or number tells no WORD.")
    void findBeyond() {
        refuse(BEYOND, () -> x.find(0, 0, 0, 0));
        tongue(-1);
        refuse(BEYOND, () -> x.find(0, 0, 0, 0));
        tongue(-1);
        matches(2);
        refuseOutside(2, match -> x.find(match, 0, 0, 0));
        refuseOutside(2, tongue -> x.find(0, tongue, 0, 0));
        refuseOutside(1000, year -> x.find(0, 0, 0, year));
        refuseEach(BEYOND, new int[] {MIN, -2, 7, 50, 49, LAST_WORD + 1, NINE_SOUNDS, MAX}, number -> x.find(0, 0, number, 0));
        // no YEAR of these was that of a FIND
        due(0, x.find(1, 1, LAST_WORD, 0));
        due(1, x.find(1, 1, LAST_WORD, 999));
        due(NONE, x.known(0, 0, 999));
    }

    @Boundary(promise = 21, says = "BEYOND: no such MATCH")
    void findBeyondWithoutTongues() {
        matches(1);
        refuse(BEYOND, () -> x.find(0, 0, 0, 0));
        refuse(BEYOND, () -> x.find(0, -1, 0, 0));
    }

    @Boundary(promise = 21, says = "STATE: the latest FIND was in a later YEAR.")
    void findState() {
        tongue(-1);
        tongue(-1);
        matches(2);
        due(0, x.find(0, 0, w("a"), 500));
        refuse(STATE, () -> x.find(0, 0, w("b"), 499));
        // also of another MATCH in another TONGUE, and one that takes back
        refuse(STATE, () -> x.find(1, 1, w("b"), 499));
        refuse(STATE, () -> x.find(1, 1, -1, 0));
        refuse(BEYOND, () -> x.find(2, 1, w("b"), 499));
        refuse(BEYOND, () -> x.find(0, 0, w("b"), -1));
        due(1, x.find(1, 1, -1, 500));
        due(2, x.find(1, 1, -1, 999));
        refuse(STATE, () -> x.find(0, 0, w("b"), 998));
        due(3, x.find(0, 1, w("c"), 999));
        due(w("a"), x.known(0, 0, 999));
        due(NONE, x.known(0, 0, 499));
        due(NONE, x.known(1, 1, 999));
    }

    @Boundary(promise = 21, says = "FULL.")
    void findFull() {
        tongue(-1);
        matches(1);
        for (int i = 0; i < 59; i++) {
            due(i, x.find(0, 0, w("a"), 10));
        }
        due(59, x.find(0, 0, w("b"), 10));
        refuse(FULL, () -> x.find(0, 0, w("c"), 10));
        refuse(FULL, () -> x.find(0, 0, -1, 999));
        // these are asked first
        refuse(STATE, () -> x.find(0, 0, w("c"), 9));
        refuse(BEYOND, () -> x.find(0, 0, 7, 9));
        refuse(BEYOND, () -> x.find(0, 0, w("c"), 1000));
        due(60, x.told(3));
        due(w("b"), x.known(0, 0, 999));
        due(NONE, x.known(0, 0, 9));
    }

    // ---- promise 22

    @Boundary(promise = 22, says = "What is known of a MATCH in a TONGUE in a YEAR.")
    void knownOfEach() {
        tongue(-1);
        tongue(0);
        matches(2);
        x.find(0, 0, w("a"), 0);
        x.find(1, 1, w("b"), 999);
        due(w("a"), x.known(0, 0, 0));
        due(w("a"), x.known(0, 0, 999));
        due(w("b"), x.known(1, 1, 999));
        due(NONE, x.known(1, 1, 998));
        due(NONE, x.known(0, 1, 999));
        due(NONE, x.known(1, 0, 999));
    }

    @Boundary(promise = 22, says = "BEYOND: no such MATCH, TONGUE, or YEAR.")
    void knownBeyond() {
        refuse(BEYOND, () -> x.known(0, 0, 0));
        tongue(-1);
        tongue(-1);
        refuse(BEYOND, () -> x.known(0, 0, 0));
        matches(2);
        x.find(1, 1, w("a"), 0);
        refuseOutside(2, match -> x.known(match, 1, 0));
        refuseOutside(2, tongue -> x.known(1, tongue, 0));
        refuseOutside(1000, year -> x.known(1, 1, year));
        due(w("a"), x.known(1, 1, 0));
        due(w("a"), x.known(1, 1, 999));
    }

    @Boundary(promise = 22, says = "NONE: nothing is.")
    void knownNone() {
        tongue(-1);
        matches(1);
        refuse(NONE, () -> x.known(0, 0, 0));
        refuse(NONE, () -> x.known(0, 0, 999));
        x.find(0, 0, 0, 10);
        x.find(0, 0, -1, 11);
        refuse(NONE, () -> x.known(0, 0, 9));
        // that it is written with no SIGN is known
        due(0, x.known(0, 0, 10));
        refuse(NONE, () -> x.known(0, 0, 11));
        due(2, x.told(3));
    }

    // ---- promise 23

    @Boundary(promise = 23, says = "How many MOTHERS a MATCH has, as known in a YEAR.")
    void mothersFromNoneToAll() {
        makeMatch();
        due(ALL_STEMS, x.mothers(0, 0));
        due(ALL_STEMS, x.mothers(0, 9));
        due(1, x.mothers(0, 10));
        due(1, x.mothers(0, 19));
        due(2, x.mothers(0, 20));
        x.find(0, 1, w("c"), 30);
        due(0, x.mothers(0, 30));
        // a WORD of more SOUNDS than a STEM has is none
        x.find(0, 0, w("cccccc"), 40);
        x.find(0, 1, w("cccccc"), 40);
        due(0, x.mothers(0, 40));
        x.find(0, 0, w("ccccc"), 41);
        x.find(0, 1, w("ccccc"), 41);
        due(1, x.mothers(0, 41));
        x.find(0, 0, 0, 42);
        x.find(0, 1, 0, 42);
        due(0, x.mothers(0, 42));
        due(0, x.told(9));
    }

    @Boundary(promise = 23, says = "BEYOND.")
    void mothersBeyond() {
        refuse(BEYOND, () -> x.mothers(0, 0));
        matches(2);
        refuseOutside(2, match -> x.mothers(match, 0));
        refuseOutside(1000, year -> x.mothers(1, year));
        due(ALL_STEMS, x.mothers(1, 0));
        due(ALL_STEMS, x.mothers(1, 999));
    }

    // ---- promise 24

    @Boundary(promise = 24, says = "The i-th of these (from 0), by numbers.")
    void motherFirstAndLast() {
        makeMatch();
        due(w("a"), x.mother(0, 0, 0));
        due(w("b"), x.mother(0, 0, 1));
        due(w("aa"), x.mother(0, 0, 6));
        due(LAST_STEM - 1, x.mother(0, 0, ALL_STEMS - 2));
        due(LAST_STEM, x.mother(0, 0, ALL_STEMS - 1));
        due(w("b"), x.mother(0, 10, 0));
        due(w("a"), x.mother(0, 20, 0));
        due(w("b"), x.mother(0, 20, 1));
    }

    @Boundary(promise = 24, says = "BEYOND: no such MATCH, YEAR, or i is below 0.")
    void motherBeyond() {
        refuse(BEYOND, () -> x.mother(0, 0, 0));
        makeMatch();
        refuseOutside(1, match -> x.mother(match, 0, 0));
        refuseOutside(1000, year -> x.mother(0, year, 0));
        refuseEach(BEYOND, new int[] {MIN, -1}, i -> x.mother(0, 0, i));
        x.find(0, 1, w("c"), 30);
        // there is no MOTHER at all, but that is asked later
        refuseEach(BEYOND, new int[] {MIN, -1}, i -> x.mother(0, 30, i));
        due(w("a"), x.mother(0, 0, 0));
    }

    @Boundary(promise = 24, says = "NONE: there are not so many.")
    void motherNone() {
        makeMatch();
        refuse(NONE, () -> x.mother(0, 0, ALL_STEMS));
        refuse(NONE, () -> x.mother(0, 0, MAX));
        refuse(NONE, () -> x.mother(0, 10, 1));
        refuse(NONE, () -> x.mother(0, 20, 2));
        x.find(0, 1, w("c"), 30);
        refuse(NONE, () -> x.mother(0, 30, 0));
        due(w("b"), x.mother(0, 20, 1));
    }

    // ---- promise 25

    @Boundary(promise = 25, says = "Which SOUNDS stand at a place (0 to 4) of MOTHERS, as bits; bit 6: some end ahead of it.")
    void doubtAtFirstAndLastPlace() {
        makeMatch();
        // none ends ahead of its first SOUND
        due(63, x.doubt(0, 0, 0));
        for (int place = 1; place <= 4; place++) {
            due(127, x.doubt(0, 0, place));
            due(64, x.doubt(0, 20, place));
        }
        due(3, x.doubt(0, 20, 0));
        x.find(0, 0, w("fedcb"), 30);
        int[] sounds = {32, 16, 8, 4, 3};
        for (int place = 0; place <= 4; place++) {
            due(sounds[place], x.doubt(0, 30, place));
        }
        x.find(0, 0, w("fedb"), 40);
        due(3, x.doubt(0, 40, 3));
        due(64, x.doubt(0, 40, 4));
        // of no MOTHERS there is nothing to tell
        x.find(0, 1, w("f"), 50);
        for (int place = 0; place <= 4; place++) {
            due(0, x.doubt(0, 50, place));
        }
    }

    @Boundary(promise = 25, says = "BEYOND: no such MATCH, YEAR, or place.")
    void doubtBeyond() {
        refuse(BEYOND, () -> x.doubt(0, 0, 0));
        matches(2);
        refuseOutside(2, match -> x.doubt(match, 0, 0));
        refuseOutside(1000, year -> x.doubt(1, year, 0));
        refuseOutside(5, place -> x.doubt(1, 0, place));
        due(63, x.doubt(1, 999, 0));
        due(127, x.doubt(1, 0, 4));
    }

    // ---- promise 26

    @Boundary(promise = 26, says = "THE BEST.")
    void bestLeastAndGreatest() {
        matches(1);
        due(w("a"), x.best(0, 999));
        tongue(-1);
        x.find(0, 0, LAST_STEM, 10);
        due(w("a"), x.best(0, 9));
        due(LAST_STEM, x.best(0, 10));
        x.find(0, 0, w("ffffff"), 11);
        due(w("a"), x.best(0, 11));
        x.find(0, 0, -1, 12);
        due(w("a"), x.best(0, 12));
    }

    @Boundary(promise = 26, says = "BEYOND.")
    void bestBeyond() {
        refuse(BEYOND, () -> x.best(0, 0));
        matches(2);
        refuseOutside(2, match -> x.best(match, 0));
        refuseOutside(1000, year -> x.best(1, year));
        due(w("a"), x.best(1, 0));
        due(w("a"), x.best(1, 999));
    }

    // ---- promise 27

    @Boundary(promise = 27, says = "BREAKERS, as bits.")
    void breakersFromNoneToAll() {
        makeAlike(8, LAST_WORD);
        due(255, x.breakers(0, 0));
        for (int t = 0; t < 8; t++) {
            x.find(0, t, w("f"), 1);
        }
        due(0, x.breakers(0, 1));
        x.find(0, 7, w("e"), 2);
        due(128, x.breakers(0, 2));
        x.find(0, 7, w("f"), 3);
        x.find(0, 0, w("e"), 3);
        due(1, x.breakers(0, 3));
        for (int t = 0; t < 8; t++) {
            x.find(0, t, -1, 4);
        }
        due(0, x.breakers(0, 4));
    }

    @Boundary(promise = 27, says = "BEYOND.")
    void breakersBeyond() {
        refuse(BEYOND, () -> x.breakers(0, 0));
        matches(2);
        refuseOutside(2, match -> x.breakers(match, 0));
        refuseOutside(1000, year -> x.breakers(1, year));
        due(0, x.breakers(1, 0));
        due(0, x.breakers(1, 999));
    }

    // ---- promise 28

    @Boundary(promise = 28, says = "From which TONGUE a BREAKER was LENT: 10 times that, and behind how many of its own LAWS: of several the one "
        + "from the least TONGUE, then the one behind the fewest.")
    void lentFromTheLeastBehindTheFewest() {
        laws("a>b", "d>e");
        tongue(-1);
        tongue(-1, 1, 1);
        tongue(-1, 0);
        tongue(-1, 0);
        matches(1);
        x.find(0, 0, w("a"), 0);
        x.find(0, 2, w("b"), 0);
        x.find(0, 1, w("b"), 0);
        due(w("a"), x.best(0, 0));
        due(2, x.breakers(0, 0));
        // from 2 or 3, behind 0, 1 or 2
        due(20, x.lent(0, 0, 1));
        // a TONGUE of which nothing is known can lend, too
        x.find(0, 2, -1, 1);
        due(w("a"), x.best(0, 1));
        due(20, x.lent(0, 1, 1));
        x.leave(2);
        due(30, x.lent(0, 1, 1));
        x.leave(3);
        due(NONE, x.lent(0, 1, 1));
    }

    @Boundary(promise = 28, says = "10 times that, and behind how many of its own LAWS")
    void lentFromTheFirstBehindNone() {
        laws("a>b");
        tongue(-1, 0);
        tongue(-1);
        tongue(-1);
        tongue(-1);
        matches(1);
        x.find(0, 1, w("a"), 0);
        x.find(0, 2, w("a"), 0);
        x.find(0, 3, w("b"), 0);
        due(8, x.breakers(0, 0));
        due(0, x.lent(0, 0, 3));
        due(0, x.told(9));
        // the first TONGUE itself was LENT from the next one
        x.find(0, 0, w("a"), 1);
        due(9, x.breakers(0, 1));
        due(11, x.lent(0, 1, 0));
    }

    @Boundary(promise = 28, says = "then the one behind the fewest")
    void lentBehindTheFewestThatDo() {
        laws("a>b", "b>c", "c>d", "a>a");
        tongue(-1, 2);
        tongue(-1, 3, 3, 0, 3, 1, 3);
        matches(1);
        x.find(0, 0, w("a"), 0);
        x.find(0, 1, w("b"), 0);
        due(w("a"), x.best(0, 0));
        due(2, x.breakers(0, 0));
        // what has become b becomes c
        due(NONE, x.lent(0, 0, 1));
        x.find(0, 1, w("a"), 1);
        due(w("a"), x.best(0, 1));
        due(2, x.breakers(0, 1));
        // behind the first three, four, five or six of its LAWS an a stays
        due(3, x.lent(0, 1, 1));
    }

    @Boundary(promise = 28, says = "BEYOND: no such MATCH, YEAR, or TONGUE.")
    void lentBeyond() {
        refuse(BEYOND, () -> x.lent(0, 0, 0));
        matches(1);
        refuse(BEYOND, () -> x.lent(0, 0, 0));
        matches(1);
        tongue(-1);
        tongue(-1);
        x.find(1, 0, w("a"), 0);
        x.find(1, 1, w("b"), 0);
        refuseOutside(2, match -> x.lent(match, 0, 1));
        refuseOutside(1000, year -> x.lent(1, year, 1));
        refuseOutside(2, tongue -> x.lent(1, 0, tongue));
        refuse(BEYOND, () -> x.lent(1, 0, 32));
        refuse(BEYOND, () -> x.lent(1, 0, 33));
        due(NONE, x.lent(1, 0, 1));
        due(NONE, x.lent(1, 999, 1));
    }

    @Boundary(promise = 28, says = "STATE: it is no BREAKER.")
    void lentState() {
        makeAlike(3, w("a"));
        refuse(STATE, () -> x.lent(0, 0, 0));
        refuse(STATE, () -> x.lent(0, 0, 2));
        x.find(0, 2, w("b"), 1);
        refuse(STATE, () -> x.lent(0, 0, 2));
        refuse(STATE, () -> x.lent(0, 1, 1));
        due(NONE, x.lent(0, 1, 2));
        x.find(0, 2, -1, 2);
        refuse(STATE, () -> x.lent(0, 2, 2));
        due(0, x.breakers(0, 2));
        due(NONE, x.lent(0, 1, 2));
    }

    @Boundary(promise = 28, says = "NONE: it was LENT from none.")
    void lentNone() {
        makeAlike(1, LAST_WORD);
        // there is no other TONGUE
        due(1, x.breakers(0, 0));
        refuse(NONE, () -> x.lent(0, 0, 0));
        laws("a>b", "b>c");
        tongue(-1, 1, 0);
        // its own FORM would do behind none of its LAWS, but it is not another TONGUE
        x.find(0, 0, w("a"), 1);
        x.find(0, 1, w("c"), 1);
        due(w("a"), x.best(0, 1));
        refuse(NONE, () -> x.lent(0, 1, 1));
        x.find(0, 1, w("a"), 2);
        due(2, x.lent(0, 2, 1));
    }

    // ---- promise 29

    @Boundary(promise = 29, says = "How many MATCHES would have other MOTHERS, as known in a YEAR, if a LAW HELD nowhere.")
    void leansFromNoneToAll() {
        laws("a>b", "c>d");
        tongue(-1, 0, 1, 0);
        tongue(0, 0);
        due(0, x.leans(0, 0));
        matches(10);
        due(0, x.leans(0, 999));
        for (int m = 0; m < 10; m++) {
            x.find(m, m % 2, w("b"), m);
            due(m + 1, x.leans(0, m));
            due(0, x.leans(1, m));
        }
        due(10, x.leans(0, 999));
        due(1, x.leans(0, 0));
        for (int m = 0; m < 10; m++) {
            x.find(m, m % 2, -1, 20);
        }
        due(0, x.leans(0, 20));
        due(10, x.leans(0, 19));
    }

    @Boundary(promise = 29, says = "would have other MOTHERS")
    void leansOnlyIfMothersAreOthers() {
        laws("a>b", "a>b", "f>a");
        tongue(-1, 0, 1);
        matches(2);
        x.find(0, 0, w("b"), 0);
        // the other LAW does the same
        due(0, x.leans(0, 0));
        due(0, x.leans(1, 0));
        due(0, x.leans(2, 0));
        x.leave(0);
        due(1, x.leans(0, 0));
        // without MOTHERS, with the LAW or without it
        x.find(0, 0, LAST_WORD, 1);
        due(0, x.leans(0, 1));
        // MOTHERS only without it
        x.find(0, 0, w("a"), 2);
        due(0, x.mothers(0, 2));
        due(1, x.leans(0, 2));
        due(w("b"), x.form(0, w("a")));
        due(0, x.mothers(0, 2));
    }

    @Boundary(promise = 29, says = "would have other MOTHERS")
    void leansIfAsManyAreOthers() {
        laws("a>b", "a>d", "e>d/_b", "b>-/d_", "d>f");
        tongue(-1, 4, 0, 1, 2, 3);
        tongue(-1);
        hideAllBut(1, 1);
        matches(1);
        x.find(0, 0, w("d"), 0);
        // no b stands in it
        x.find(0, 1, 0, 0);
        // ea has become eb, db, d; without the first LAW only a would become d
        due(1, x.mothers(0, 0));
        due(w("ea"), x.mother(0, 0, 0));
        due(1, x.leans(0, 0));
        due(w("ea"), x.mother(0, 0, 0));
        due(1, x.mothers(0, 0));
    }

    @Boundary(promise = 29, says = "if a LAW HELD nowhere")
    void leansOnLawsAboveAndBelow() {
        laws("a>b", "b>c", "f>f");
        tongue(-1, 0);
        tongue(0, 1);
        matches(2);
        x.find(0, 1, w("c"), 0);
        // a and b and c; c alone without b>c, b and c without a>b
        due(3, x.mothers(0, 0));
        due(1, x.leans(0, 0));
        due(1, x.leans(1, 0));
        due(0, x.leans(2, 0));
        x.find(1, 0, w("b"), 1);
        due(2, x.leans(0, 1));
        // the TONGUE above has no such LAW
        due(1, x.leans(1, 1));
        x.find(0, 1, w("d"), 2);
        due(1, x.leans(0, 2));
        due(0, x.leans(1, 2));
        x.find(0, 1, w("b"), 3);
        // a would not become b without a>b, and does not stay b with b>c
        due(0, x.mothers(0, 3));
        due(1, x.leans(1, 3));
        due(1, x.leans(0, 3));
    }

    @Boundary(promise = 29, says = "if a LAW HELD nowhere")
    void leansWithOtherLawsAbove() {
        laws("a>c", "b>c");
        tongue(-1, 0);
        tongue(0, 1);
        matches(1);
        x.find(0, 1, w("a"), 0);
        // no a is left by the TONGUE above, with b>c or without it
        due(0, x.leans(1, 0));
        due(1, x.leans(0, 0));
        x.find(0, 1, w("c"), 1);
        due(1, x.leans(1, 1));
        x.find(0, 1, w("d"), 2);
        due(0, x.leans(1, 2));
        due(0, x.leans(0, 2));
    }

    @Boundary(promise = 29, says = "How many MATCHES would have other MOTHERS")
    void leansCountsAMatchOnce() {
        laws("a>b");
        tongue(-1, 0);
        matches(3);
        // three STEMS are no MOTHERS of the first one without it, seven of the next one, all of them longer
        x.find(0, 0, w("bb"), 0);
        x.find(1, 0, w("bbb"), 0);
        x.find(2, 0, w("c"), 0);
        due(4, x.mothers(0, 0));
        due(8, x.mothers(1, 0));
        due(2, x.leans(0, 0));
        x.find(2, 0, w("bbbbb"), 1);
        due(3, x.leans(0, 1));
    }

    @Boundary(promise = 29, says = "How many MATCHES would have other MOTHERS")
    void leansWithAllTonguesAndMatches() {
        laws("a>b", "c>d");
        for (int t = 0; t < 8; t++) {
            tongue(-1, t % 2);
        }
        matches(10);
        // in the last TONGUES of the first and last MATCH, in the first one of all others
        x.find(0, 6, w("b"), 0);
        x.find(0, 7, w("a"), 0);
        x.find(9, 6, w("b"), 0);
        x.find(9, 7, w("b"), 0);
        for (int m = 1; m < 9; m++) {
            x.find(m, 0, w("c"), 0);
        }
        due(1, x.mothers(0, 0));
        due(1, x.mothers(9, 0));
        due(1, x.leans(0, 0));
        due(0, x.leans(1, 0));
        for (int t = 0; t < 8; t++) {
            x.find(9, t, t % 2 == 0 ? w("b") : w("a"), 1);
        }
        due(2, x.leans(0, 1));
        due(0, x.leans(1, 1));
    }

    @Boundary(promise = 29, says = "would have other MOTHERS, as known in a YEAR")
    void leansAsksAllTongues() {
        laws("a>b");
        tongue(-1, 0);
        tongue(-1);
        matches(1);
        // without it a would do in the first TONGUE, but not in the second one
        x.find(0, 0, w("a"), 0);
        x.find(0, 1, w("c"), 0);
        due(0, x.leans(0, 0));
        x.find(0, 1, w("a"), 1);
        due(1, x.leans(0, 1));
        // with it a does in the first TONGUE, but not in the second one
        x.find(0, 0, w("b"), 2);
        x.find(0, 1, w("c"), 2);
        due(0, x.leans(0, 2));
        x.find(0, 1, w("a"), 3);
        due(1, x.leans(0, 3));
    }

    @Boundary(promise = 29, says = "BEYOND: no such LAW, or YEAR.")
    void leansBeyond() {
        refuse(BEYOND, () -> x.leans(0, 0));
        laws("a>b", "b>c");
        refuseOutside(2, law -> x.leans(law, 0));
        refuseOutside(1000, year -> x.leans(1, year));
        tongue(-1, 1);
        matches(1);
        x.find(0, 0, w("c"), 999);
        due(0, x.leans(1, 998));
        due(1, x.leans(1, 999));
        refuse(BEYOND, () -> x.leans(1, 1000));
    }
}

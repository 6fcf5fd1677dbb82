/** Boundary cases of TEXTS and of the tape as a LAW (promise 4). */
final class TextBoundaries extends Boundaries {

    /** The longest TEXT that there can be. */
    private static final String LONGEST = "a>bc/d_e!f_#";
    /** A byte that can stand nowhere in a TEXT. */
    private static final char NOWHERE = 255;

    /** Of all 256 bytes only some can stand behind the first part of a TEXT. */
    private void dueBehind(String part, String letters) {
        for (char b = 0; b < 256; b++) {
            if (b % 128 == 0) {
                x = new DaughterTongues();
            }
            feed(part + b + NOWHERE);
            int wrongAt = part.length() + (letters.indexOf(b) < 0 ? 0 : 1);
            due(WRONG - wrongAt, x.law());
        }
        due(0, x.told(0));
        due(128, x.told(9));
    }

    @Boundary(promise = Boundary.TERMS, says = "a FROM (a to f, V or C), a >, a TO (- for nothing, or one or two of a to f)")
    void bytesOfFromAndTo() {
        dueBehind("", "abcdefVC");
        dueBehind("a", ">");
        dueBehind("C", ">");
        dueBehind("a>", "-abcdef");
        dueBehind("a>b", "abcdef/!");
    }

    @Boundary(promise = Boundary.TERMS, says = "then, perhaps, a / and a PLACE, then, perhaps, a ! and a PLACE")
    void bytesBehindToAndPlaces() {
        dueBehind("a>-", "/!");
        dueBehind("a>bc", "/!");
        dueBehind("a>b/_", "abcdefVC#!");
        dueBehind("a>b/a_", "abcdefVC#!");
        dueBehind("a>b/_#", "!");
        dueBehind("a>b!_", "abcdefVC#");
        dueBehind("a>b!_#", "");
        dueBehind("a>b/_!_", "abcdefVC#");
        dueBehind(LONGEST, "");
    }

    @Boundary(promise = Boundary.TERMS, says = "A PLACE is a MARK, or nothing, a _, and a MARK, or nothing; a MARK: a to f, V, C, or #.")
    void bytesOfPlaces() {
        dueBehind("a>b/", "abcdefVC#_");
        dueBehind("a>b/a", "_");
        dueBehind("a>b/#", "_");
        dueBehind("a>b!", "abcdefVC#_");
        dueBehind("a>b!V", "_");
        dueBehind("a>-/_!", "abcdefVC#_");
        dueBehind("a>-/_!C", "_");
    }

    @Boundary(promise = Boundary.TERMS, says = "WRONG is the place of the first byte that can't stand there, or the TEXT's length, "
        + "if it ends where it can't.")
    void textsEndTooEarly() {
        boolean[] canEnd = {false, false, false, true, true, false, false, true, true, false, false, true, true};
        int laws = 0;
        for (int length = 0; length <= LONGEST.length(); length++) {
            due(canEnd[length] ? laws : WRONG - length, law(LONGEST.substring(0, length)));
            laws += canEnd[length] ? 1 : 0;
            due(laws, x.told(0));
        }
        due(WRONG - 3, law("a>-a"));
        due(WRONG - 4, law("a>-/"));
        due(WRONG - 4, law("a>-!"));
    }

    @Boundary(promise = Boundary.TERMS, says = "WRONG is the place of the first byte that can't stand there")
    void firstWrongByteIsTold() {
        due(WRONG, law("xx"));
        due(WRONG - 1, law("axx"));
        due(WRONG - 4, law("a>bcd/"));
        due(WRONG - 5, law("a>b!_/_"));
        due(WRONG - 5, law("a>b/_/_"));
        due(WRONG - 5, law("a>b!_!_"));
        due(WRONG - 12, law(LONGEST + "#"));
        due(WRONG - 12, law(LONGEST + "xxxxxxxxxxxxxxxxxxxxxxxxxxxx"));
        // up to 40 bytes that can't stand there
        due(WRONG, law("########################################"));
        due(0, x.told(0));
        due(9, x.told(9));
    }

    @Boundary(promise = Boundary.TERMS, says = "(A PLACE without any MARK is one, too.)")
    void placeWithoutMarks() {
        laws("a>b/_", "a>b!_", "a>b/_!_");
        for (int law = 0; law < 3; law++) {
            for (int what = 3; what <= 6; what++) {
                due(-1, x.about(law, what));
            }
        }
        due(1, x.about(0, 7));
        due(0, x.about(0, 8));
        due(0, x.about(1, 7));
        due(1, x.about(1, 8));
        due(1, x.about(2, 7));
        due(1, x.about(2, 8));
        due(w("bb"), x.run(0, w("aa")));
        due(w("aa"), x.run(1, w("aa")));
        due(w("aa"), x.run(2, w("aa")));
    }

    @Boundary(promise = Boundary.TERMS, says = "LAWS 0, 1, .. (at most 24) are read from TEXTS")
    void atMostTwentyFourLaws() {
        for (int i = 0; i < 24; i++) {
            due(i, law(i % 2 == 0 ? "a>b" : "b>c"));
        }
        due(FULL, law("c>d"));
        due(24, x.told(0));
        due(w("bb"), x.run(22, w("ab")));
        due(w("ac"), x.run(23, w("ab")));
        due(BEYOND, x.run(24, w("ab")));
    }

    // ---- promise 4

    @Boundary(promise = 4, says = "The tape is the TEXT of a new LAW: its number.")
    void shortestAndLongestText() {
        due(0, law("a>b"));
        due(1, law(LONGEST));
        int[] facts = {2, 0, w("bc"), 3, 4, 5, 8, 1, 1};
        for (int what = 0; what < 9; what++) {
            due(facts[what], x.about(1, what));
        }
        // a LAW without PLACES has nothing of the one ahead of it
        due(2, law("f>-"));
        int[] bare = {1, 5, 0, -1, -1, -1, -1, 0, 0};
        for (int what = 0; what < 9; what++) {
            due(bare[what], x.about(2, what));
            due(facts[what], x.about(1, what));
        }
    }

    @Boundary(promise = 4, says = "The tape is the TEXT of a new LAW")
    void theWholeTapeIsTheText() {
        x.feed('a', 1);
        x.feed('>', 1);
        x.feed('b', 1);
        due(0, x.law());
        // a byte of 0 is one, too
        x.feed('a' | '>' << 8 | 'b' << 16, 4);
        due(WRONG - 3, x.law());
        x.feed('a' << 8, 2);
        due(WRONG, x.law());
        // what stood behind on the tape once is gone
        law("a>bc/d_x");
        due(1, law("a>b"));
        due(2, x.about(1, 2));
        due(WRONG - 2, law("a>"));
    }

    @Boundary(promise = 4, says = "-1000100 less WRONG.")
    void wrongIsToldAndNoLawCame() {
        due(-1000100, x.law());
        due(-1000100, law("#>b"));
        due(-1000101, law("a"));
        due(-1000112, law(LONGEST + "a"));
        due(0, x.told(0));
        due(4, x.told(9));
        due(BEYOND, x.about(0, 0));
        due(0, law("a>b"));
        due(-1000102, law("b>"));
        due(1, x.told(0));
        due(2, x.about(0, 2));
    }

    @Boundary(promise = 4, says = "FULL.")
    void lawFull() {
        for (int i = 0; i < 23; i++) {
            law("a>b");
        }
        due(23, law("f>e"));
        due(FULL, law("c>d"));
        due(FULL, law("c>d"));
        due(24, x.told(0));
        due(2, x.told(9));
        due(5, x.about(23, 1));
        due(0, x.about(0, 1));
        due(BEYOND, x.about(24, 1));
        // WRONG is asked first
        due(WRONG - 2, law("c>"));
        due(WRONG, x.law());
    }

    @Boundary(promise = 4, says = "The tape is empty then, whatever is answered.")
    void tapeIsEmptyThen() {
        feed("a>b");
        due(0, x.law());
        due(0, x.told(7));
        due(WRONG, x.law());
        feed("a>bx");
        due(WRONG - 3, x.law());
        due(0, x.told(7));
        due(3, feed("a>b"));
        due(1, x.law());
        for (int i = 2; i < 24; i++) {
            law("a>b");
        }
        feed("a>b");
        due(FULL, x.law());
        due(0, x.told(7));
        for (int i = 1; i <= 5; i++) {
            due(8 * i, x.feed(0, 8));
        }
        due(WRONG, x.law());
        due(0, x.told(7));
    }
}

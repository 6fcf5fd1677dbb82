/** Boundary cases of SOUNDS, WORDS, and what LAWS do with them (promises 1 to 3 and 5 to 8). */
final class SoundBoundaries extends Boundaries {

    // ---- SOUNDS and WORDS

    @Boundary(promise = Boundary.TERMS, says = "SOUNDS 0 to 5 (a to f in texts) are VOWELS or not (0 and 4 are, at first).")
    void soundsAreSix() {
        due(17, x.told(8));
        laws("a>f", "f>a");
        due(0, x.about(0, 1));
        due(6, x.about(0, 2));
        due(5, x.about(1, 1));
        due(1, x.about(1, 2));
        due(WRONG, law("g>a"));
        due(WRONG - 2, law("a>g"));
        // the byte ahead of a
        due(WRONG, law("`>a"));
        due(WRONG - 2, law("a>`"));
        due(2, x.told(0));
    }

    @Boundary(promise = Boundary.TERMS, says = "A WORD is a row of 0 to 8 SOUNDS, told by its number: 0 for that of none; "
        + "else 7 times the number of the WORD without its last SOUND, and that SOUND, and 1.")
    void wordsByNumbers() {
        int[] words = {0, 1, 6, 8, 13, 48, 57, w("fff"), w("aaaaaaaa"), LAST_WORD - 1, LAST_WORD};
        for (int word : words) {
            due(word, x.form(-1, word));
        }
        due(0, x.told(9));
        refuseNoWords(word -> x.form(-1, word));
        laws("a>b", "f>e");
        due(w("bbbbbbbb"), x.run(0, 960800));
        due(w("eeeeeeee"), x.run(1, LAST_WORD));
    }

    @Boundary(promise = Boundary.TERMS, says = "A WORD is a row of 0 to 8 SOUNDS, told by its number")
    void wordsAreCountedWhole() {
        int words = 0;
        int all = 0;
        // of up to three SOUNDS: 1 and 6 and 36 and 216
        for (int number = -3; number < 7 * 7 * 7; number++) {
            x = new DaughterTongues();
            words += x.form(-1, number) == number ? 1 : 0;
            all += x.form(-1, number) == BEYOND ? 1 : 0;
        }
        due(259, words);
        due(3 + 343 - 259, all);
    }

    @Boundary(promise = Boundary.TERMS, says = "A STEM is a WORD of 1 to 5 SOUNDS.")
    void stemsHaveOneToFiveSounds() {
        tongue(-1);
        due(0, x.back(0, 0));
        due(1, x.back(0, w("a")));
        due(1, x.back(0, w("fffff")));
        due(0, x.back(0, w("aaaaaa")));
        due(0, x.back(0, LAST_WORD));
        hideAllBut(0, -1);
        due(ALL_STEMS, x.back(0, 0));
        due(w("a"), x.stem(0, 0, 0));
        due(w("f"), x.stem(0, 0, 5));
        due(w("aa"), x.stem(0, 0, 6));
        due(LAST_STEM, x.stem(0, 0, ALL_STEMS - 1));
        due(w("fffff"), LAST_STEM);
        due(NONE, x.stem(0, 0, ALL_STEMS));
    }

    // ---- promise 1

    @Boundary(promise = 1, says = "No LAWS, TONGUES, MATCHES, PAIRS, ROADS, WAVES; an empty LIST and tape; sheets MISSING.")
    void newObjectIsEmpty() {
        for (int what = 0; what <= 7; what++) {
            due(0, x.told(what));
        }
        due(17, x.told(8));
        due(0, x.told(9));
        due(BEYOND, x.about(0, 0));
        due(BEYOND, x.own(0, 0));
        due(BEYOND, x.written(0, 0));
        due(BEYOND, x.mothers(0, 0));
        due(BEYOND, x.proof(0));
        due(BEYOND, x.comes(0, 0));
        for (int s = 0; s < 4; s++) {
            due(MISSING, x.write(s, 0, 0));
            due(MISSING, x.read(s));
        }
        due(14, x.told(9));
        due(0, x.fewest());
        due(0, x.unpair());
        due(1, x.speeches(999));
        due(NONE, x.parted(0, 7));
        due(WRONG, x.law());
    }

    @Boundary(promise = 1, says = "ROADS")
    void newObjectHasNoRoads() {
        for (int a = 0; a < 8; a++) {
            for (int b = 0; b < 8; b++) {
                due(a == b ? BEYOND : 0, x.road(a, b, 0));
            }
        }
        for (int place = 0; place < 8; place++) {
            due(1000, x.shut(place, 1000));
        }
    }

    @Boundary(promise = 1, says = "No LAWS, TONGUES, MATCHES, PAIRS, ROADS, WAVES; an empty LIST and tape; sheets MISSING.")
    void newObjectTakesNothingFromAnother() {
        laws("a>b");
        tongue(-1, 0);
        matches(1);
        x.vowel(0, false);
        x.script(0, 0, -1);
        x.road(0, 1, 1);
        x.shut(2, 0);
        x.wave(0, 0, 0);
        x.list(1);
        x.pair(1, 2);
        x.sheet(0, 8, 1);
        x.feed(0, 8);
        x.told(-1);
        DaughterTongues used = x;
        x = new DaughterTongues();
        dueTold(new int[] {0, 0, 0, 0, 0, 0, 0, 0, 17, 0});
        due(0, x.road(0, 1, 0));
        due(1000, x.shut(2, 1000));
        due(MISSING, x.read(0));
        due(0, x.tongue(-1));
        due(0, x.script(0, 0, 0));
        due(1, used.road(0, 1, 1));
        due(1, used.told(0));
    }

    // ---- promise 2

    @Boundary(promise = 2, says = "A SOUND is a VOWEL, or not: 1 if it was, else 0.")
    void vowelTellsWhatWas() {
        due(1, x.vowel(0, true));
        due(1, x.vowel(0, false));
        due(0, x.vowel(0, false));
        due(0, x.vowel(0, true));
        due(0, x.vowel(5, true));
        due(1, x.vowel(5, true));
        due(1 + 16 + 32, x.told(8));
        due(1, x.vowel(5, false));
        due(17, x.told(8));
    }

    @Boundary(promise = 2, says = "A SOUND is a VOWEL, or not")
    void allAndNoVowels() {
        laws("V>-", "C>-", "b>c/V_", "b>c/C_", "b>c!V_", "b>c!C_");
        for (int sound = 0; sound < 6; sound++) {
            x.vowel(sound, false);
        }
        due(0, x.told(8));
        due(w("abcdef"), x.run(0, w("abcdef")));
        due(0, x.run(1, w("abcdef")));
        due(0, x.holds(2, w("abb")));
        due(6, x.holds(3, w("abb")));
        due(6, x.holds(4, w("abb")));
        due(0, x.holds(5, w("abb")));
        for (int sound = 0; sound < 6; sound++) {
            x.vowel(sound, true);
        }
        due(63, x.told(8));
        due(0, x.run(0, w("abcdef")));
        due(w("abcdef"), x.run(1, w("abcdef")));
        due(6, x.holds(2, w("abb")));
        due(0, x.holds(3, w("abb")));
        due(0, x.holds(4, w("abb")));
        due(6, x.holds(5, w("abb")));
    }

    @Boundary(promise = 2, says = "A SOUND is a VOWEL, or not")
    void vowelChangesFormsAtOnce() {
        laws("V>b");
        tongue(-1, 0);
        tongue(-1, 0);
        for (int t = 0; t < 2; t++) {
            due(3, x.back(t, w("b")));
        }
        due(0, x.vowel(5, true));
        for (int t = 0; t < 2; t++) {
            due(4, x.back(t, w("b")));
        }
        refuse(BEYOND, () -> x.vowel(6, true));
        due(1, x.vowel(0, false));
        for (int t = 0; t < 2; t++) {
            due(3, x.back(t, w("b")));
        }
        due(0, x.wave(0, 0, 0));
        due(w("a"), x.speech(0, 0, w("a")));
        due(0, x.vowel(0, true));
        due(w("b"), x.speech(0, 0, w("a")));
    }

    @Boundary(promise = 2, says = "BEYOND: no such SOUND.")
    void vowelBeyond() {
        due(1, x.vowel(0, true));
        due(0, x.vowel(5, false));
        refuseOutside(6, sound -> x.vowel(sound, true));
        refuseOutside(6, sound -> x.vowel(sound, false));
        // as many places for a bit as an int has, and more
        refuse(BEYOND, () -> x.vowel(31, true));
        refuse(BEYOND, () -> x.vowel(32, false));
        refuse(BEYOND, () -> x.vowel(36, false));
        due(17, x.told(8));
        due(0, x.vowel(5, true));
    }

    // ---- promise 3

    @Boundary(promise = 3, says = "The n lowest bytes of w, the lowest first, come to the tape: how many it has.")
    void feedOneToEightBytes() {
        for (int n = 1; n <= 8; n++) {
            x = new DaughterTongues();
            due(n, x.feed(-1L, n));
            due(n, x.told(7));
        }
        x = new DaughterTongues();
        // a>b/V_V! in all eight bytes, then C_C in the three lowest
        due(8, x.feed(0x21565f562f623e61L, 8));
        due(11, x.feed(0xffffffffff435f43L, 3));
        due(0, x.law());
        int[] facts = {0, 0, 2, 6, 6, 7, 7, 1, 1};
        for (int what = 0; what < 9; what++) {
            due(facts[what], x.about(0, what));
        }
    }

    @Boundary(promise = 3, says = "The n lowest bytes of w, the lowest first, come to the tape")
    void feedTakesNoByteAboveN() {
        // behind a>b the highest byte of an int, and those above it
        due(3, x.feed(0x2f_623e61L, 3));
        due(0, x.law());
        due(4, x.feed(0x2f_2f623e61L, 4));
        due(WRONG - 4, x.law());
        due(3, x.feed(0xff623e61L | -1L << 32, 3));
        due(1, x.law());
        // bytes of 128 and more are no letters less 256
        due(3, x.feed(0x623ee1L, 3));
        due(WRONG, x.law());
    }

    @Boundary(promise = 3, says = "BEYOND: n is not 1 to 8.")
    void feedBeyond() {
        due(1, x.feed('a', 1));
        refuseEach(BEYOND, new int[] {MIN, -8, -1, 0, 9, 256, MAX}, n -> x.feed(0x623eL, n));
        due(1, x.told(7));
        due(3, x.feed('>' | 'b' << 8, 2));
        due(0, x.law());
        due(8, x.feed(0, 8));
    }

    @Boundary(promise = 3, says = "FULL: there would be more than 40.")
    void feedFull() {
        due(11, feed("a>b/V_V!C_C"));
        for (int i = 1; i <= 3; i++) {
            due(11 + 8 * i, x.feed('x', 8));
        }
        refuse(FULL, () -> x.feed('a', 6));
        refuse(FULL, () -> x.feed('a', 8));
        due(40, x.feed('x', 5));
        refuse(FULL, () -> x.feed('a', 1));
        refuse(FULL, () -> x.feed('a', 8));
        due(40, x.told(7));
        due(WRONG - 11, x.law());
        due(8, x.feed(0, 8));
    }

    @Boundary(promise = 3, says = "FULL: there would be more than 40.")
    void feedFullByOneByte() {
        for (int i = 1; i <= 39; i++) {
            due(i, x.feed('a', 1));
        }
        refuse(FULL, () -> x.feed('a', 2));
        due(40, x.feed('a', 1));
        refuse(FULL, () -> x.feed('a', 1));
        refuse(BEYOND, () -> x.feed('a', 0));
        refuse(BEYOND, () -> x.feed('a', MAX));
        due(WRONG - 1, x.law());
        due(0, x.told(7));
    }

    // ---- promise 5

    @Boundary(promise = 5, says = "A LAW as one of a kind: its number.")
    void asItsOwnKind() {
        laws("a>b", "a>-", "a>ab", "a>aa");
        for (int law = 0; law < 4; law++) {
            due(law, x.as(law, 0));
            due(law, x.as(law, law));
        }
        due(3, x.as(3, 2));
        due(0, x.told(9));
    }

    @Boundary(promise = 5, says = "BEYOND: no such LAW, or kind.")
    void asBeyond() {
        refuse(BEYOND, () -> x.as(0, 0));
        laws("a>aa", "b>bb");
        due(0, x.as(0, 0));
        due(1, x.as(1, 3));
        refuseOutside(2, law -> x.as(law, 0));
        refuseOutside(4, kind -> x.as(1, kind));
        due(1, x.as(1, 2));
    }

    @Boundary(promise = 5, says = "KIND: it is not of that kind, nor of one under it.")
    void asKind() {
        laws("a>b", "a>-", "a>ab", "a>aa");
        refuseEach(KIND, new int[] {1, 2, 3}, kind -> x.as(0, kind));
        refuseEach(KIND, new int[] {2, 3}, kind -> x.as(1, kind));
        refuseEach(KIND, new int[] {1, 3}, kind -> x.as(2, kind));
        refuse(KIND, () -> x.as(3, 1));
        refuse(BEYOND, () -> x.as(3, 4));
        refuse(BEYOND, () -> x.as(4, 1));
        due(2, x.as(2, 2));
    }

    @Boundary(promise = Boundary.TERMS, says = "KINDS: 0 LAW; 1 LOSS under LAW: TO is nothing; 2 SPLIT under LAW: two SOUNDS; "
        + "3 TWIN under SPLIT: twice the SOUND that FROM is.")
    void kindsOfLaws() {
        String[] texts = {"a>a", "V>a", "a>-", "C>-", "a>ab", "a>ba", "a>bb", "V>aa", "C>bb", "a>aa", "f>ff"};
        int[] kinds = {0, 0, 1, 1, 2, 2, 2, 2, 2, 3, 3};
        for (int i = 0; i < texts.length; i++) {
            due(i, law(texts[i]));
            due(kinds[i], x.about(i, 0));
        }
    }

    @Boundary(promise = Boundary.TERMS, says = "(The last of these that fits.)")
    void lastKindThatFits() {
        laws("f>ff", "e>ff", "e>-");
        due(3, x.about(0, 0));
        due(2, x.about(1, 0));
        due(1, x.about(2, 0));
        due(0, x.as(0, 2));
        due(KIND, x.as(1, 3));
    }

    // ---- promise 6

    @Boundary(promise = 6, says = "Of a LAW: 0 kind, 1 FROM (a SOUND, 6 V, 7 C), 2 TO (as a WORD), 3 and 4 the MARKS of the "
        + "PLACE behind / (a SOUND, 6 V, 7 C, 8 #, -1 none; no finding), 5 and 6 of that behind !, 7 1 if there is a /, "
        + "8 1 if there is a !, else 0.")
    void aboutFirstAndLastOfAll() {
        laws("a>-", "V>a/a_f", "C>ff!#_C", "f>aa/_!_", "b>c/#_V!f_a");
        int[][] facts = {
            {1, 0, 0, -1, -1, -1, -1, 0, 0},
            {0, 6, 1, 0, 5, -1, -1, 1, 0},
            {2, 7, 48, -1, -1, 8, 7, 0, 1},
            {2, 5, 8, -1, -1, -1, -1, 1, 1},
            {0, 1, 3, 8, 6, 5, 0, 1, 1}};
        for (int law = 0; law < facts.length; law++) {
            for (int what = 0; what < 9; what++) {
                due(facts[law][what], x.about(law, what));
            }
        }
        due(0, x.told(9));
    }

    @Boundary(promise = 6, says = "BEYOND: no such LAW, or another what.")
    void aboutBeyond() {
        refuse(BEYOND, () -> x.about(0, 0));
        laws("a>b", "b>c!_#");
        due(0, x.about(0, 0));
        due(1, x.about(1, 8));
        refuseOutside(2, law -> x.about(law, 0));
        refuseOutside(9, what -> x.about(1, what));
        // as far from its own as the facts of the other LAW may be
        refuse(BEYOND, () -> x.about(1, -9));
        refuse(BEYOND, () -> x.about(0, 10));
        due(8, x.about(1, 6));
    }

    // ---- promise 7, and how LAWS fit

    @Boundary(promise = 7, says = "A WORD over which a LAW is RUN.")
    void runOverShortestAndLongest() {
        laws("a>b", "f>-", "V>-", "f>a");
        due(0, x.run(0, 0));
        due(w("b"), x.run(0, w("a")));
        due(w("bbbbbbbb"), x.run(0, w("aaaaaaaa")));
        due(0, x.run(1, w("f")));
        due(0, x.run(1, LAST_WORD));
        due(w("f"), x.run(2, w("aeaefaea")));
        due(w("aaaaaaaa"), x.run(3, LAST_WORD));
        due(LAST_WORD, x.run(0, LAST_WORD));
    }

    @Boundary(promise = 7, says = "BEYOND: no such LAW, or word tells no WORD.")
    void runBeyond() {
        refuse(BEYOND, () -> x.run(0, 0));
        laws("a>b", "b>c");
        refuseOutside(2, law -> x.run(law, w("a")));
        refuseNoWords(word -> x.run(1, word));
        refuse(BEYOND, () -> x.run(2, 7));
        due(w("b"), x.run(0, w("a")));
        due(w("c"), x.run(1, w("b")));
        due(LAST_WORD, x.run(1, LAST_WORD));
    }

    @Boundary(promise = Boundary.TERMS, says = "To RUN a LAW over a WORD: each SOUND at which it HOLDS, in the WORD as it was, "
        + "becomes TO, all at once; if there would be more than 8 SOUNDS, the WORD stays as it was.")
    void runStaysWithinEightSounds() {
        laws("a>aa", "a>bc", "V>bb/_#", "C>ff/#_", "a>-");
        due(w("aaaaaaaa"), x.run(0, w("aaaa")));
        due(w("aaaaa"), x.run(0, w("aaaaa")));
        due(w("bcbcbbbb"), x.run(1, w("aabbbb")));
        due(w("aabbbbb"), x.run(1, w("aabbbbb")));
        due(w("aaabbb"), x.run(1, w("aaabbb")));
        due(w("bbbbbbbb"), x.run(2, w("bbbbbba")));
        due(w("bbbbbbba"), x.run(2, w("bbbbbbba")));
        due(w("ffaaaaaa"), x.run(3, w("baaaaaa")));
        due(w("baaaaaaa"), x.run(3, w("baaaaaaa")));
        due(w("aaaaaaaa"), x.run(0, w("aaaaaaaa")));
        due(LAST_WORD, x.run(0, LAST_WORD));
        due(0, x.run(4, w("aaaaaaaa")));
    }

    @Boundary(promise = Boundary.TERMS, says = "in the WORD as it was, becomes TO, all at once")
    void runAllAtOnce() {
        laws("a>b/_a", "b>a/a_", "a>-/a_", "a>aa/#_", "a>b/#_", "a>-/_#");
        due(w("bbbbbbba"), x.run(0, w("aaaaaaaa")));
        due(w("aabbbbbb"), x.run(1, w("abbbbbbb")));
        due(w("a"), x.run(2, w("aaaaaaaa")));
        due(w("aaaa"), x.run(3, w("aaa")));
        due(w("baaaaaaa"), x.run(4, w("aaaaaaaa")));
        due(w("aaaaaaa"), x.run(5, w("aaaaaaaa")));
    }

    @Boundary(promise = Boundary.TERMS, says = "V fits VOWELS, C other SOUNDS, a to f that SOUND alone")
    void marksFitSounds() {
        laws("V>-", "C>-", "a>-", "f>-", "b>c/V_", "b>c/_C", "b>c/a_", "b>c/_f");
        due(17, x.holds(0, w("abcdef")));
        due(46, x.holds(1, w("abcdef")));
        due(1, x.holds(2, w("abcdef")));
        due(32, x.holds(3, w("abcdef")));
        due(2 + 32, x.holds(4, w("abcbeb")));
        due(1 + 4, x.holds(5, w("bcbfba")));
        due(2, x.holds(6, w("abcbeb")));
        due(4, x.holds(7, w("bcbfba")));
    }

    @Boundary(promise = Boundary.TERMS, says = "# fits the end of a WORD (ahead of its first SOUND, behind its last one) alone, "
        + "and others fit no end")
    void marksAtTheEnds() {
        laws("b>c/#_", "b>c/_#", "b>c/#_#", "b>c/V_", "b>c/_V", "b>c/C_", "b>c/_C", "b>c/a_", "b>c/_a", "b>c/f_", "b>c/_f");
        due(1, x.holds(0, w("b")));
        due(1, x.holds(0, w("bbbbbbbb")));
        due(1, x.holds(1, w("b")));
        due(128, x.holds(1, w("bbbbbbbb")));
        due(16, x.holds(1, w("bbbbb")));
        due(1, x.holds(2, w("b")));
        due(0, x.holds(2, w("bb")));
        for (int law = 3; law <= 10; law++) {
            due(0, x.holds(law, w("b")));
        }
        due(254, x.holds(5, w("bbbbbbbb")));
        due(127, x.holds(6, w("bbbbbbbb")));
        // also if all SOUNDS are VOWELS, or none is
        for (int sound = 0; sound < 6; sound++) {
            x.vowel(sound, true);
        }
        due(254, x.holds(3, w("bbbbbbbb")));
        due(127, x.holds(4, w("bbbbbbbb")));
        due(0, x.holds(5, w("b")));
        due(0, x.holds(6, w("b")));
    }

    @Boundary(promise = Boundary.TERMS, says = "a MARK that isn't there fits all")
    void noMarkFitsAll() {
        laws("b>c/_", "b>c/a_", "b>c/_a", "b>c!a_", "b>c!_a");
        due(255, x.holds(0, w("bbbbbbbb")));
        due(1, x.holds(0, w("b")));
        due(2, x.holds(1, w("ab")));
        due(2, x.holds(1, w("abc")));
        due(1, x.holds(2, w("ba")));
        due(2, x.holds(2, w("cba")));
        due(1, x.holds(3, w("bab")));
        due(4, x.holds(4, w("bab")));
    }

    @Boundary(promise = Boundary.TERMS, says = "A PLACE fits at a SOUND of a WORD if its first MARK fits what stands ahead of it, "
        + "and its last MARK what stands behind it.")
    void placesAtFirstAndLastSound() {
        laws("b>c/#_a", "b>c/a_#", "b>c/a_a", "b>c!#_a", "b>c!a_#");
        due(1, x.holds(0, w("bab")));
        due(0, x.holds(0, w("b")));
        due(0, x.holds(0, w("aba")));
        due(4, x.holds(1, w("bab")));
        due(0, x.holds(1, w("b")));
        due(0, x.holds(1, w("aba")));
        due(2, x.holds(2, w("aba")));
        due(0, x.holds(2, w("bab")));
        due(2 + 8 + 32, x.holds(2, w("abababab")));
        due(4, x.holds(3, w("bab")));
        due(1, x.holds(3, w("b")));
        due(1, x.holds(4, w("bab")));
        due(1, x.holds(4, w("b")));
    }

    @Boundary(promise = Boundary.TERMS, says = "A LAW HOLDS at a SOUND if FROM fits it, the PLACE behind / fits (if there is one), "
        + "and that behind ! does not (if there is one).")
    void holdsWhereBothPlacesAllow() {
        laws("b>c", "b>c/_", "b>c!_", "b>c/_!_", "b>c/a_!a_", "b>c/a_!_a", "b>c/_a!a_", "V>c!_#");
        due(7, x.holds(0, w("bbb")));
        due(7, x.holds(1, w("bbb")));
        due(0, x.holds(2, w("bbb")));
        due(0, x.holds(3, w("bbb")));
        due(0, x.holds(4, w("ababab")));
        due(32, x.holds(5, w("ababab")));
        due(0, x.holds(6, w("ababab")));
        due(1, x.holds(6, w("babab")));
        due(1, x.holds(7, w("aba")));
        due(0, x.holds(7, w("a")));
        due(0, x.holds(0, w("acdef")));
    }

    // ---- promise 8

    @Boundary(promise = 8, says = "In how many SOUNDS of a WORD a LAW HOLDS, as bits (bit 0: the first one).")
    void holdsAsBits() {
        laws("a>b", "a>aa", "f>-");
        due(0, x.holds(0, 0));
        due(1, x.holds(0, w("a")));
        due(1, x.holds(0, w("abbbbbbb")));
        due(128, x.holds(0, w("bbbbbbba")));
        due(255, x.holds(0, w("aaaaaaaa")));
        // it HOLDS, though the WORD stays as it was
        due(31, x.holds(1, w("aaaaa")));
        due(255, x.holds(1, w("aaaaaaaa")));
        due(255, x.holds(2, LAST_WORD));
    }

    @Boundary(promise = 8, says = "BEYOND as of run().")
    void holdsBeyond() {
        refuse(BEYOND, () -> x.holds(0, 0));
        laws("a>b", "b>c");
        refuseOutside(2, law -> x.holds(law, w("a")));
        refuseNoWords(word -> x.holds(1, word));
        refuse(BEYOND, () -> x.holds(2, 7));
        due(1, x.holds(0, w("a")));
        due(1, x.holds(1, w("b")));
        due(0, x.holds(1, LAST_WORD));
    }
}

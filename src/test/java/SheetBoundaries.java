/** Boundary cases of sheets, and of what is told (promises 43 to 47). */
final class SheetBoundaries extends Boundaries {

    /** Writes numbers that a sheet has already: each must be there. */
    private void dueNumbers(int s, int... numbers) {
        for (int i = 0; i < numbers.length; i++) {
            due(numbers[i], x.write(s, i, numbers[i]));
        }
    }

    /** A sheet of 1, 2, .. */
    private void makeSheet(int s, int bits, int n) {
        due(n, x.sheet(s, bits, n));
        for (int i = 0; i < n; i++) {
            due(0, x.write(s, i, i + 1));
        }
    }

    @Boundary(promise = Boundary.TERMS, says = "SHEETS 0 to 3 are rows of up to 12 numbers of 8, 16 or 32 bits, or MISSING (all, at first).")
    void sheetsAreFour() {
        for (int s = 0; s < 4; s++) {
            due(MISSING, x.write(s, 0, 0));
        }
        due(12, x.sheet(0, 8, 12));
        due(12, x.sheet(1, 16, 12));
        due(12, x.sheet(3, 32, 12));
        for (int s = 0; s < 4; s++) {
            due(s != 2 ? 0 : MISSING, x.write(s, 11, -1));
            due(s != 2 ? -1 : MISSING, x.write(s, 11, 0));
            due(s != 2 ? BEYOND : MISSING, x.write(s, 12, 0));
        }
        due(BEYOND, x.sheet(4, 8, 1));
        due(BEYOND, x.sheet(0, 64, 1));
    }

    @Boundary(promise = Boundary.TERMS, says = "numbers of 8, 16 or 32 bits")
    void numbersWrapAround() {
        x.sheet(0, 8, 1);
        x.sheet(1, 16, 1);
        x.sheet(2, 32, 1);
        int[] written = {127, 128, 255, 256, -128, -129, 32767, 32768, 65535, 65536, -32768, -32769, MAX, MIN};
        int[] eight = {127, -128, -1, 0, -128, 127, -1, 0, -1, 0, 0, -1, -1, 0};
        int[] sixteen = {127, 128, 255, 256, -128, -129, 32767, -32768, -1, 0, -32768, 32767, -1, 0};
        for (int i = 0; i < written.length; i++) {
            x.write(0, 0, written[i]);
            due(eight[i], x.write(0, 0, 0));
            x.write(1, 0, written[i]);
            due(sixteen[i], x.write(1, 0, 0));
            x.write(2, 0, written[i]);
            due(written[i], x.write(2, 0, 0));
        }
    }

    // ---- promise 43

    @Boundary(promise = 43, says = "A sheet has n numbers, all 0, of 8, 16 or 32 bits; bits 0: it is MISSING: 0.")
    void sheetOfNoneToTwelve() {
        due(0, x.sheet(0, 8, 0));
        due(BEYOND, x.write(0, 0, 1));
        due(0, x.read(0));
        makeSheet(0, 8, 12);
        dueNumbers(0, 1, 2, 3, 4, 5, 6, 7, 8, 9, 10, 11, 12);
        // all are 0 again, also those that were not there in between
        due(1, x.sheet(0, 8, 1));
        due(BEYOND, x.write(0, 1, 1));
        due(12, x.sheet(0, 8, 12));
        dueNumbers(0, 0, 0, 0, 0, 0, 0, 0, 0, 0, 0, 0, 0);
        due(0, x.sheet(0, 0, 12));
        due(MISSING, x.write(0, 0, 1));
        due(0, x.sheet(0, 0, 0));
        due(MISSING, x.read(0));
        due(12, x.sheet(3, 32, 12));
        due(0, x.write(3, 11, 1));
    }

    @Boundary(promise = 43, says = "all 0, of 8, 16 or 32 bits; bits 0: it is MISSING: 0.")
    void sheetMissingThenThere() {
        makeSheet(0, 16, 3);
        due(0, x.sheet(0, 0, 3));
        due(3, x.sheet(0, 16, 3));
        dueNumbers(0, 0, 0, 0);
        x.write(0, 2, 40000);
        due(3, x.sheet(0, 32, 3));
        due(0, x.write(0, 2, 40000));
        due(40000, x.write(0, 2, 0));
    }

    @Boundary(promise = 43, says = "BEYOND: no such sheet, or bits.")
    void sheetBeyondSheetOrBits() {
        makeSheet(0, 8, 2);
        makeSheet(3, 8, 2);
        refuseOutside(4, s -> x.sheet(s, 8, 2));
        refuseEach(BEYOND, new int[] {MIN, -8, -1, 1, 4, 7, 9, 15, 17, 24, 31, 33, 64, 256, MAX}, bits -> x.sheet(3, bits, 2));
        // ahead of SIZE
        refuse(BEYOND, () -> x.sheet(4, 8, -1));
        refuse(BEYOND, () -> x.sheet(3, 7, -1));
        dueNumbers(0, 1, 2);
        dueNumbers(3, 1, 2);
    }

    @Boundary(promise = 43, says = "SIZE: n is below 0.")
    void sheetSize() {
        makeSheet(0, 8, 2);
        refuseEach(SIZE, new int[] {-1, -12, MIN}, n -> x.sheet(0, 8, n));
        refuseEach(SIZE, new int[] {-1, MIN}, n -> x.sheet(0, 32, n));
        refuse(SIZE, () -> x.sheet(1, 16, -1));
        dueNumbers(0, 1, 2);
        due(MISSING, x.write(1, 0, 0));
        due(0, x.sheet(0, 8, 0));
        due(BEYOND, x.write(0, 0, 0));
    }

    @Boundary(promise = 43, says = "BEYOND: n is above 12.")
    void sheetBeyondTwelve() {
        makeSheet(0, 8, 12);
        refuseEach(BEYOND, new int[] {13, 256, MAX}, n -> x.sheet(0, 8, n));
        refuse(BEYOND, () -> x.sheet(1, 32, 13));
        dueNumbers(0, 1, 2, 3, 4, 5, 6, 7, 8, 9, 10, 11, 12);
        due(MISSING, x.write(1, 0, 0));
        due(12, x.sheet(0, 8, 12));
        due(0, x.write(0, 11, 0));
    }

    @Boundary(promise = 43, says = "Else n.")
    void sheetTellsItsSize() {
        int[] bits = {8, 16, 32};
        for (int b : bits) {
            for (int n = 0; n <= 12; n++) {
                due(n, x.sheet(2, b, n));
                due(BEYOND, x.write(2, n, 0));
                due(n == 0 ? BEYOND : 0, x.write(2, n - 1, 0));
            }
        }
    }

    @Boundary(promise = 43, says = "(Also with bits 0 these are asked.)")
    void sheetMissingIsAskedToo() {
        makeSheet(0, 8, 2);
        refuse(SIZE, () -> x.sheet(0, 0, -1));
        refuse(SIZE, () -> x.sheet(0, 0, MIN));
        refuse(BEYOND, () -> x.sheet(0, 0, 13));
        refuse(BEYOND, () -> x.sheet(0, 0, MAX));
        refuse(BEYOND, () -> x.sheet(-1, 0, 0));
        refuse(BEYOND, () -> x.sheet(4, 0, 0));
        dueNumbers(0, 1, 2);
        due(0, x.sheet(0, 0, 12));
        due(MISSING, x.write(0, 0, 0));
    }

    // ---- promise 44

    @Boundary(promise = 44, says = "Number i of a sheet becomes v (its lowest bits): what it was.")
    void writeLowestBits() {
        x.sheet(0, 8, 12);
        due(0, x.write(0, 0, 127));
        due(127, x.write(0, 0, 128));
        due(-128, x.write(0, 0, -1));
        due(-1, x.write(0, 0, 255));
        due(-1, x.write(0, 0, 256));
        due(0, x.write(0, 0, MAX));
        due(-1, x.write(0, 0, MIN));
        due(0, x.write(0, 11, 3));
        due(3, x.write(0, 11, 0));
        due(0, x.write(0, 10, 0));
        due(0, x.told(9));
    }

    @Boundary(promise = 44, says = "what it was")
    void writeTellsWhatLooksLikeAFinding() {
        x.sheet(0, 32, 1);
        due(0, x.write(0, 0, BEYOND));
        due(BEYOND, x.write(0, 0, MIN));
        due(MIN, x.write(0, 0, MAX));
        due(MAX, x.write(0, 0, 0));
        due(0, x.told(9));
    }

    @Boundary(promise = 44, says = "BEYOND: no such sheet.")
    void writeBeyondSheet() {
        makeSheet(0, 8, 1);
        makeSheet(3, 8, 1);
        refuseOutside(4, s -> x.write(s, 0, 9));
        refuse(BEYOND, () -> x.write(4, -1, 9));
        dueNumbers(0, 1);
        dueNumbers(3, 1);
    }

    @Boundary(promise = 44, says = "MISSING.")
    void writeMissing() {
        refuse(MISSING, () -> x.write(0, 0, 1));
        // ahead of what number it is
        refuse(MISSING, () -> x.write(0, -1, 1));
        refuse(MISSING, () -> x.write(3, 12, 1));
        due(1, x.sheet(0, 8, 1));
        due(0, x.write(0, 0, 1));
        due(0, x.sheet(0, 0, 1));
        refuse(MISSING, () -> x.write(0, 0, 1));
    }

    @Boundary(promise = 44, says = "BEYOND: no such number.")
    void writeBeyondNumber() {
        due(0, x.sheet(0, 8, 0));
        refuseOutside(0, i -> x.write(0, i, 9));
        makeSheet(1, 16, 3);
        refuseOutside(3, i -> x.write(1, i, 9));
        makeSheet(2, 32, 12);
        refuseOutside(12, i -> x.write(2, i, 9));
        dueNumbers(1, 1, 2, 3);
        dueNumbers(2, 1, 2, 3, 4, 5, 6, 7, 8, 9, 10, 11, 12);
    }

    // ---- promise 45

    @Boundary(promise = 45, says = "n numbers of a sheet from one on come to another one from one on (as they all were): n.")
    void copyNoneToAll() {
        makeSheet(0, 16, 12);
        due(12, x.sheet(1, 16, 12));
        due(0, x.copy(0, 0, 1, 0, 0));
        due(0, x.copy(0, 12, 1, 12, 0));
        dueNumbers(1, 0, 0, 0, 0, 0, 0, 0, 0, 0, 0, 0, 0);
        due(1, x.copy(0, 11, 1, 0, 1));
        due(1, x.copy(0, 0, 1, 11, 1));
        dueNumbers(1, 12, 0, 0, 0, 0, 0, 0, 0, 0, 0, 0, 1);
        due(12, x.copy(0, 0, 1, 0, 12));
        dueNumbers(1, 1, 2, 3, 4, 5, 6, 7, 8, 9, 10, 11, 12);
        dueNumbers(0, 1, 2, 3, 4, 5, 6, 7, 8, 9, 10, 11, 12);
        due(0, x.sheet(2, 16, 0));
        due(0, x.copy(2, 0, 2, 0, 0));
        due(0, x.copy(2, 0, 0, 12, 0));
        due(0, x.told(9));
    }

    @Boundary(promise = 45, says = "(as they all were)")
    void copyOntoItself() {
        makeSheet(0, 8, 5);
        due(4, x.copy(0, 0, 0, 1, 4));
        dueNumbers(0, 1, 1, 2, 3, 4);
        makeSheet(1, 32, 5);
        due(4, x.copy(1, 1, 1, 0, 4));
        dueNumbers(1, 2, 3, 4, 5, 5);
        due(5, x.copy(1, 0, 1, 0, 5));
        dueNumbers(1, 2, 3, 4, 5, 5);
    }

    @Boundary(promise = 45, says = "BEYOND: no such sheet (either).")
    void copyBeyondSheet() {
        makeSheet(0, 8, 2);
        makeSheet(3, 8, 2);
        refuseOutside(4, s -> x.copy(s, 0, 0, 0, 1));
        refuseOutside(4, t -> x.copy(3, 0, t, 0, 1));
        // ahead of MISSING, and of what is below 0
        refuse(BEYOND, () -> x.copy(4, 0, 1, 0, 1));
        refuse(BEYOND, () -> x.copy(1, 0, 4, 0, 1));
        refuse(BEYOND, () -> x.copy(-1, -1, 1, -1, -1));
        due(2, x.copy(3, 0, 0, 0, 2));
        dueNumbers(0, 1, 2);
    }

    @Boundary(promise = 45, says = "MISSING: one is.")
    void copyMissing() {
        makeSheet(0, 8, 2);
        refuse(MISSING, () -> x.copy(0, 0, 1, 0, 1));
        refuse(MISSING, () -> x.copy(1, 0, 0, 0, 1));
        refuse(MISSING, () -> x.copy(1, 0, 2, 0, 0));
        refuse(MISSING, () -> x.copy(3, 0, 3, 0, 0));
        // ahead of what is below 0
        refuse(MISSING, () -> x.copy(0, -1, 1, 0, 1));
        refuse(MISSING, () -> x.copy(1, 0, 0, 0, -1));
        dueNumbers(0, 1, 2);
        due(2, x.sheet(1, 8, 2));
        due(2, x.copy(0, 0, 1, 0, 2));
        dueNumbers(1, 1, 2);
        due(0, x.sheet(1, 0, 0));
        refuse(MISSING, () -> x.copy(0, 0, 1, 0, 0));
    }

    @Boundary(promise = 45, says = "KIND: they are not of as many bits.")
    void copyKind() {
        makeSheet(0, 8, 2);
        makeSheet(1, 16, 2);
        makeSheet(2, 32, 2);
        int[] others = {1, 2, 0};
        for (int s = 0; s < 3; s++) {
            int one = s;
            int other = others[s];
            refuse(KIND, () -> x.copy(one, 0, other, 0, 1));
            refuse(KIND, () -> x.copy(other, 0, one, 0, 0));
        }
        // ahead of the last BEYOND
        refuse(KIND, () -> x.copy(0, -1, 1, 0, 1));
        refuse(KIND, () -> x.copy(0, 0, 2, 0, 13));
        for (int s = 0; s < 3; s++) {
            dueNumbers(s, 1, 2);
        }
        due(2, x.sheet(1, 8, 2));
        due(2, x.copy(0, 0, 1, 0, 2));
        dueNumbers(1, 1, 2);
    }

    @Boundary(promise = 45, says = "BEYOND: one has not so many, or from, to or n is below 0.")
    void copyBeyondNumbers() {
        makeSheet(0, 8, 3);
        makeSheet(1, 8, 2);
        refuse(BEYOND, () -> x.copy(0, 0, 1, 0, 3));
        refuse(BEYOND, () -> x.copy(1, 0, 0, 0, 3));
        refuse(BEYOND, () -> x.copy(0, 2, 1, 0, 2));
        refuse(BEYOND, () -> x.copy(0, 0, 1, 1, 2));
        refuseEach(BEYOND, new int[] {MIN, -1, 4, MAX}, from -> x.copy(0, from, 1, 0, 0));
        refuseEach(BEYOND, new int[] {MIN, -1, 3, MAX}, to -> x.copy(0, 0, 1, to, 0));
        refuseEach(BEYOND, new int[] {MIN, -1, 3, 12, MAX}, n -> x.copy(0, 0, 1, 0, n));
        // a sum that wraps around to what it has
        refuse(BEYOND, () -> x.copy(0, MAX, 1, 0, 1));
        refuse(BEYOND, () -> x.copy(0, 0, 1, MAX, 1));
        refuse(BEYOND, () -> x.copy(0, 1, 1, 0, MAX));
        refuse(BEYOND, () -> x.copy(0, MAX, 1, MAX, MAX));
        dueNumbers(0, 1, 2, 3);
        dueNumbers(1, 1, 2);
        due(2, x.copy(0, 1, 1, 0, 2));
        dueNumbers(1, 2, 3);
    }

    @Boundary(promise = 45, says = "from, to or n is below 0")
    void copyBeyondOnOneSheet() {
        makeSheet(0, 32, 12);
        refuse(BEYOND, () -> x.copy(0, 1, 0, 0, 12));
        refuse(BEYOND, () -> x.copy(0, 0, 0, 1, 12));
        refuse(BEYOND, () -> x.copy(0, -1, 0, 0, 1));
        refuse(BEYOND, () -> x.copy(0, 0, 0, -1, 1));
        refuse(BEYOND, () -> x.copy(0, 12, 0, 12, -1));
        refuse(BEYOND, () -> x.copy(0, 0, 0, 0, 13));
        dueNumbers(0, 1, 2, 3, 4, 5, 6, 7, 8, 9, 10, 11, 12);
        due(11, x.copy(0, 1, 0, 0, 11));
        dueNumbers(0, 2, 3, 4, 5, 6, 7, 8, 9, 10, 11, 12, 12);
    }

    // ---- promise 46

    @Boundary(promise = 46, says = "THE LIST becomes the WORDS that numbers of a sheet tell, up to the first that tells none: how many.")
    void readUpToTheFirstThatTellsNone() {
        laws("a>b", "b>c");
        x.wave(0, 0, 1);
        x.wave(1, 1, 2);
        x.list(w("b"));
        due(3, x.sheet(0, 32, 3));
        x.write(0, 0, w("c"));
        x.write(0, 1, w("a"));
        x.write(0, 2, w("b"));
        due(3, x.read(0));
        due(1, x.parted(0, 2));
        due(2, x.parted(1, 2));
        for (int number : NO_WORDS) {
            x.write(0, 2, number);
            due(2, x.read(0));
            due(2, x.told(6));
        }
        due(NONE, x.parted(1, 2));
        x.write(0, 1, 7);
        x.write(0, 2, w("a"));
        // the WORD behind it is not reached
        due(1, x.read(0));
        due(NONE, x.parted(0, 2));
        x.write(0, 0, -1);
        due(0, x.read(0));
        due(0, x.told(6));
        due(1, x.list(w("a")));
        due(1, x.parted(0, 2));
    }

    @Boundary(promise = 46, says = "THE LIST becomes the WORDS that numbers of a sheet tell")
    void readNoneToTwelve() {
        for (int i = 0; i < 12; i++) {
            x.list(w("a"));
        }
        due(0, x.sheet(0, 8, 0));
        due(0, x.read(0));
        due(0, x.told(6));
        // 0 is a WORD, that of no SOUND
        due(12, x.sheet(0, 8, 12));
        due(12, x.read(0));
        due(12, x.told(6));
        due(1, x.sheet(3, 32, 1));
        due(0, x.write(3, 0, LAST_WORD));
        due(1, x.read(3));
        due(LAST_WORD, x.write(3, 0, LAST_WORD + 1));
        due(0, x.read(3));
        // the greatest number of eight bits tells a WORD, those below 0 tell none
        due(2, x.sheet(1, 8, 2));
        x.write(1, 0, 127);
        x.write(1, 1, 128);
        due(1, x.read(1));
        due(2, x.sheet(2, 16, 2));
        x.write(2, 0, 65536);
        x.write(2, 1, 65535);
        due(1, x.read(2));
        due(0, x.told(9));
    }

    @Boundary(promise = 46, says = "BEYOND: no such sheet.")
    void readBeyond() {
        x.list(w("a"));
        x.sheet(0, 8, 2);
        x.sheet(3, 8, 3);
        refuseOutside(4, s -> x.read(s));
        due(1, x.told(6));
        due(3, x.read(3));
        due(2, x.read(0));
    }

    @Boundary(promise = 46, says = "MISSING.")
    void readMissing() {
        laws("a>b");
        x.wave(0, 0, 5);
        x.list(w("a"));
        refuseEach(MISSING, new int[] {0, 1, 2, 3}, s -> x.read(s));
        // THE LIST stays
        due(5, x.parted(0, 1));
        x.sheet(0, 8, 2);
        due(2, x.read(0));
        due(0, x.sheet(0, 0, 2));
        refuse(MISSING, () -> x.read(0));
        due(2, x.told(6));
    }

    // ---- promise 47

    @Boundary(promise = 47, says = "0 LAWS, 1 TONGUES, 2 MATCHES, 3 FINDS, 4 PAIRS, 5 WAVES, 6 WORDS of THE LIST, 7 bytes of the tape, 8 VOWELS as bits, "
        + "9 how many acts answered a finding ever (this one, too, if it does).")
    void toldOfNoneAndOfAll() {
        dueTold(new int[] {0, 0, 0, 0, 0, 0, 0, 0, 17, 0});
        for (int i = 0; i < 24; i++) {
            law("a>b");
        }
        for (int i = 0; i < 8; i++) {
            x.tongue(-1);
            x.wave(0, 0, 0);
        }
        matches(10);
        for (int i = 0; i < 60; i++) {
            x.find(0, 0, 0, 0);
        }
        for (int i = 0; i < 6; i++) {
            x.pair(0, 0);
            x.vowel(i, true);
        }
        for (int i = 0; i < 12; i++) {
            x.list(0);
        }
        for (int i = 0; i < 5; i++) {
            x.feed(0, 8);
        }
        int[] all = {24, 8, 10, 60, 6, 8, 12, 40, 63, 0};
        dueTold(all);
        // one more of each is refused, and told as one
        x.tongue(-1);
        x.wave(0, 0, 0);
        x.match();
        x.find(0, 0, 0, 0);
        x.pair(0, 0);
        x.list(0);
        x.feed(0, 1);
        x.vowel(6, false);
        all[9] = 8;
        dueTold(all);
        law("a>b");
        all[7] = 0;
        all[9] = 10;
        dueTold(all);
    }

    @Boundary(promise = 47, says = "9 how many acts answered a finding ever (this one, too, if it does)")
    void toldCountsFindingsAlone() {
        due(0, x.told(9));
        due(BEYOND, x.told(10));
        due(1, x.told(9));
        due(1, x.told(9));
        due(BEYOND, x.told(-1));
        due(2, x.told(9));
        laws("a>b");
        tongue(-1);
        // answers below 0 that are no findings
        due(-1, x.about(0, 3));
        due(0, x.script(0, 0, -1));
        due(-1, x.script(0, 0, 0));
        x.pair(w("a"), 0);
        due(-1, x.simple(0, 1));
        due(2, x.told(9));
        due(WRONG, x.law());
        due(3, x.told(9));
    }

    @Boundary(promise = 47, says = "BEYOND: another what.")
    void toldBeyond() {
        x.feed(0, 3);
        refuseOutside(10, what -> x.told(what));
        due(3, x.told(7));
        due(0, x.told(0));
        due(4, x.told(9));
    }
}

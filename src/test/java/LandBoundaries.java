/** Boundary cases of the LAND, its WAVES and THE LIST (promises 35 to 42). */
final class LandBoundaries extends Boundaries {

    /** ROADS from each PLACE to the next one. */
    private void makeChain(int years) {
        for (int place = 0; place < 7; place++) {
            due(0, x.road(place, place + 1, years));
        }
    }

    @Boundary(promise = Boundary.TERMS, says = "A LAND has PLACES 0 to 7 and ROADS of 1 to 9 YEARS between two of them (none at first).")
    void roadsOfOneToNineYears() {
        laws("a>b");
        due(0, x.wave(0, 0, 0));
        for (int place = 1; place < 8; place++) {
            due(NONE, x.comes(0, place));
        }
        for (int years = 1; years <= 9; years++) {
            due(years - 1, x.road(0, 7, years));
            due(years, x.comes(0, 7));
        }
        due(BEYOND, x.road(0, 7, 10));
        due(9, x.comes(0, 7));
        due(9, x.road(7, 0, 0));
        due(NONE, x.comes(0, 7));
    }

    @Boundary(promise = Boundary.TERMS, says = "A WAVE 0, 1, .. (at most 8) is a LAW that begins in a PLACE in a YEAR.")
    void atMostEightWaves() {
        laws("a>b", "b>c");
        for (int i = 0; i < 8; i++) {
            due(BEYOND, x.comes(i, i));
            due(i, x.wave(i % 2, i, 100 * i));
            due(100 * i, x.comes(i, i));
        }
        due(FULL, x.wave(1, 0, 0));
        due(BEYOND, x.comes(8, 0));
        due(w("b"), x.speech(0, 999, w("a")));
        due(w("c"), x.speech(7, 700, w("b")));
        due(w("b"), x.speech(7, 699, w("b")));
    }

    @Boundary(promise = Boundary.TERMS, says = "It comes to all PLACES that it can reach by ROADS, each as early as can be")
    void asEarlyAsCanBe() {
        laws("a>b");
        makeChain(1);
        due(0, x.wave(0, 0, 0));
        due(7, x.comes(0, 7));
        // one ROAD takes no longer than seven, or less long, or longer
        due(0, x.road(0, 7, 7));
        due(7, x.comes(0, 7));
        due(7, x.road(0, 7, 6));
        due(6, x.comes(0, 7));
        due(6, x.comes(0, 6));
        due(6, x.road(0, 7, 8));
        due(7, x.comes(0, 7));
        // all ways the other way round
        due(1, x.wave(0, 7, 990));
        due(997, x.comes(1, 0));
        due(991, x.comes(1, 6));
        due(990, x.comes(1, 7));
    }

    @Boundary(promise = Boundary.TERMS, says = "It comes to all PLACES that it can reach by ROADS")
    void asFarAsCanBe() {
        laws("a>b");
        // a way through all PLACES, in no order of their numbers
        int[] way = {3, 7, 0, 6, 1, 5, 2, 4};
        for (int i = 0; i < 7; i++) {
            due(0, x.road(way[i + 1], way[i], 9));
        }
        due(0, x.wave(0, 3, 0));
        due(1, x.wave(0, 4, 0));
        for (int i = 0; i < 8; i++) {
            due(9 * i, x.comes(0, way[i]));
            due(9 * (7 - i), x.comes(1, way[i]));
        }
        due(9, x.road(6, 1, 0));
        due(27, x.comes(0, 6));
        due(NONE, x.comes(0, 1));
        due(NONE, x.comes(1, 6));
        due(27, x.comes(1, 1));
    }

    @Boundary(promise = Boundary.TERMS, says = "but it does not come to (or begin in) a PLACE in the YEAR in which it was SHUT, nor later "
        + "(never SHUT, at first)")
    void shutInTheYearAndLater() {
        laws("a>b");
        due(0, x.road(0, 1, 5));
        due(0, x.wave(0, 0, 10));
        x.shut(1, 16);
        due(15, x.comes(0, 1));
        x.shut(1, 15);
        due(NONE, x.comes(0, 1));
        x.shut(1, 14);
        due(NONE, x.comes(0, 1));
        x.shut(1, 0);
        due(NONE, x.comes(0, 1));
        x.shut(1, 1000);
        due(15, x.comes(0, 1));
        x.shut(0, 11);
        due(10, x.comes(0, 0));
        // it goes on from where it came, also when that is SHUT then
        due(15, x.comes(0, 1));
        x.shut(0, 10);
        due(NONE, x.comes(0, 0));
        due(NONE, x.comes(0, 1));
        x.shut(0, 0);
        due(NONE, x.comes(0, 0));
    }

    @Boundary(promise = Boundary.TERMS, says = "a PLACE in the YEAR in which it was SHUT, nor later")
    void shutPlacesAreGoneRound() {
        laws("a>b");
        x.road(0, 1, 1);
        x.road(1, 2, 1);
        x.road(0, 3, 9);
        x.road(3, 2, 9);
        x.wave(0, 0, 0);
        due(2, x.comes(0, 2));
        x.shut(1, 1);
        due(18, x.comes(0, 2));
        due(NONE, x.comes(0, 1));
        // nor from behind, later
        x.shut(1, 2);
        due(1, x.comes(0, 1));
        due(2, x.comes(0, 2));
        x.shut(2, 2);
        due(NONE, x.comes(0, 2));
        due(9, x.comes(0, 3));
    }

    @Boundary(promise = Boundary.TERMS, says = "SPEECH of a PLACE in a YEAR: LAWS of WAVES that came there in that YEAR or ahead of it are RUN over a "
        + "WORD, in the order in which they came, of like ones by the numbers of the WAVES.")
    void speechByYearsThenNumbers() {
        laws("a>b", "b>c", "c>d", "d>e");
        for (int i = 0; i < 4; i++) {
            due(i, x.wave(i, 0, 5));
        }
        for (int i = 3; i >= 0; i--) {
            due(7 - i, x.wave(i, 1, 5));
        }
        due(w("a"), x.speech(0, 4, w("a")));
        due(w("e"), x.speech(0, 5, w("a")));
        due(w("e"), x.speech(0, 999, w("a")));
        due(w("a"), x.speech(1, 4, w("a")));
        due(w("b"), x.speech(1, 5, w("a")));
        due(w("bcde"), x.speech(1, 5, w("abcd")));
    }

    @Boundary(promise = Boundary.TERMS, says = "in the order in which they came")
    void speechInTheOrderOfComing() {
        laws("a>b", "b>c", "c>d");
        x.wave(2, 0, 2);
        x.wave(1, 0, 1);
        x.wave(0, 0, 0);
        String[] said = {"b", "c", "d", "d"};
        for (int year = 0; year <= 3; year++) {
            due(w(said[year]), x.speech(0, year, w("a")));
        }
        // to a PLACE that is a ROAD away they come later, in the same order
        x.road(0, 7, 9);
        due(w("a"), x.speech(7, 8, w("a")));
        due(w("b"), x.speech(7, 9, w("a")));
        due(w("c"), x.speech(7, 10, w("a")));
        due(w("d"), x.speech(7, 11, w("a")));
    }

    @Boundary(promise = Boundary.TERMS, says = "THE LIST has at most 12 WORDS.")
    void atMostTwelveListed() {
        laws("f>e");
        x.wave(0, 0, 7);
        for (int i = 1; i <= 11; i++) {
            due(i, x.list(w("a")));
        }
        due(NONE, x.parted(0, 1));
        due(12, x.list(w("f")));
        // the twelfth is asked, too
        due(7, x.parted(0, 1));
        due(2, x.speeches(7));
        due(FULL, x.list(w("b")));
        due(12, x.told(6));
        x.sheet(0, 8, 12);
        due(12, x.read(0));
        due(FULL, x.list(w("b")));
        due(NONE, x.parted(0, 1));
    }

    @Boundary(promise = Boundary.TERMS, says = "Two PLACES SPEAK ALIKE in a YEAR if all WORDS of THE LIST come to the same in both.")
    void alikeIfAllWordsAre() {
        laws("a>b", "b>a");
        x.wave(0, 0, 0);
        x.wave(1, 1, 0);
        // all of none
        due(1, x.speeches(0));
        due(1, x.list(0));
        due(2, x.list(LAST_WORD));
        due(1, x.speeches(0));
        due(3, x.list(w("a")));
        due(2, x.speeches(0));
        due(4, x.list(w("b")));
        due(3, x.speeches(0));
        due(0, x.parted(0, 1));
        due(NONE, x.parted(2, 7));
    }

    // ---- promise 35

    @Boundary(promise = 35, says = "The ROAD between two PLACES takes so many YEARS (0: there is none): what it took.")
    void roadFirstAndLast() {
        due(0, x.road(0, 7, 1));
        due(1, x.road(7, 0, 9));
        due(9, x.road(0, 7, 9));
        due(9, x.road(0, 7, 0));
        due(0, x.road(7, 0, 0));
        due(0, x.road(6, 7, 3));
        due(0, x.road(0, 7, 0));
        due(3, x.road(7, 6, 0));
        due(0, x.told(9));
    }

    @Boundary(promise = 35, says = "BEYOND: no such PLACE (either), they are one, or years is not 0 to 9.")
    void roadBeyond() {
        due(0, x.road(0, 7, 4));
        due(0, x.road(1, 2, 5));
        refuseOutside(8, a -> x.road(a, 0, 1));
        refuseOutside(8, b -> x.road(7, b, 1));
        refuseOutside(10, years -> x.road(0, 7, years));
        refuseEach(BEYOND, new int[] {0, 1, 2, 3, 4, 5, 6, 7}, place -> x.road(place, place, 1));
        refuse(BEYOND, () -> x.road(3, 3, 0));
        refuse(BEYOND, () -> x.road(-1, -1, 0));
        refuse(BEYOND, () -> x.road(8, 8, 0));
        // in a row of eight times eight this would be the ROAD from 1 to 2
        refuse(BEYOND, () -> x.road(0, 10, 1));
        refuse(BEYOND, () -> x.road(2, -7, 1));
        due(4, x.road(7, 0, 4));
        due(5, x.road(2, 1, 5));
    }

    // ---- promise 36

    @Boundary(promise = 36, says = "A PLACE is SHUT from a YEAR on (1000: never): from which one it was.")
    void shutFirstAndLast() {
        laws("a>b");
        x.wave(0, 7, 999);
        x.road(7, 0, 1);
        due(1000, x.shut(7, 0));
        due(NONE, x.comes(0, 7));
        due(0, x.shut(7, 999));
        due(NONE, x.comes(0, 7));
        due(999, x.shut(7, 1000));
        due(999, x.comes(0, 7));
        // never is not from 1000 on
        due(1000, x.shut(0, 1000));
        due(1000, x.comes(0, 0));
        due(1000, x.shut(0, 999));
        due(NONE, x.comes(0, 0));
        due(999, x.shut(0, 1000));
        due(1000, x.comes(0, 0));
    }

    @Boundary(promise = 36, says = "BEYOND: no such PLACE, or year is not 0 to 1000.")
    void shutBeyond() {
        due(1000, x.shut(0, 3));
        due(1000, x.shut(7, 4));
        refuseOutside(8, place -> x.shut(place, 0));
        refuseOutside(1001, year -> x.shut(0, year));
        refuseOutside(1001, year -> x.shut(7, year));
        due(3, x.shut(0, 1000));
        due(4, x.shut(7, 0));
        due(1000, x.shut(6, 1000));
    }

    // ---- promise 37

    @Boundary(promise = 37, says = "A new WAVE: its number.")
    void waveFirstAndLast() {
        laws("a>b", "b>c");
        due(0, x.wave(0, 0, 0));
        due(1, x.wave(1, 7, 999));
        // one that can't begin is a WAVE, too
        x.shut(3, 0);
        due(2, x.wave(0, 3, 5));
        due(0, x.comes(0, 0));
        due(999, x.comes(1, 7));
        due(NONE, x.comes(2, 3));
        due(3, x.told(5));
    }

    @Boundary(promise = 37, says = "BEYOND: no such LAW, PLACE, or YEAR.")
    void waveBeyond() {
        refuse(BEYOND, () -> x.wave(0, 0, 0));
        laws("a>b", "b>c");
        refuseOutside(2, law -> x.wave(law, 0, 0));
        refuseOutside(8, place -> x.wave(0, place, 0));
        refuseOutside(1000, year -> x.wave(0, 0, year));
        due(BEYOND, x.comes(0, 0));
        due(w("ab"), x.speech(0, 999, w("ab")));
        due(0, x.wave(1, 7, 999));
    }

    @Boundary(promise = 37, says = "FULL.")
    void waveFull() {
        laws("a>b", "b>c");
        for (int i = 0; i < 7; i++) {
            due(i, x.wave(0, 0, 999));
        }
        due(7, x.wave(0, 7, 3));
        refuse(FULL, () -> x.wave(1, 0, 0));
        refuse(FULL, () -> x.wave(0, 0, 0));
        refuse(BEYOND, () -> x.wave(2, 0, 0));
        refuse(BEYOND, () -> x.wave(0, 8, 0));
        refuse(BEYOND, () -> x.wave(0, 0, 1000));
        due(3, x.comes(7, 7));
        due(w("a"), x.speech(0, 998, w("a")));
        due(w("b"), x.speech(0, 999, w("a")));
    }

    // ---- promise 38

    @Boundary(promise = 38, says = "The YEAR in which a WAVE comes to a PLACE (it may be above 999).")
    void comesAboveTheLastYear() {
        laws("a>b");
        makeChain(9);
        due(0, x.wave(0, 0, 0));
        due(1, x.wave(0, 0, 999));
        due(2, x.wave(0, 7, 999));
        due(0, x.comes(0, 0));
        due(63, x.comes(0, 7));
        for (int place = 0; place < 8; place++) {
            due(999 + 9 * place, x.comes(1, place));
            due(999 + 9 * (7 - place), x.comes(2, place));
        }
        due(0, x.told(9));
    }

    @Boundary(promise = 38, says = "BEYOND: no such WAVE, or PLACE.")
    void comesBeyond() {
        refuse(BEYOND, () -> x.comes(0, 0));
        laws("a>b");
        x.wave(0, 0, 3);
        x.wave(0, 7, 4);
        refuseOutside(2, wave -> x.comes(wave, 0));
        refuseOutside(8, place -> x.comes(1, place));
        // in a row of all WAVES this would be a PLACE of the other one
        refuse(BEYOND, () -> x.comes(1, -8));
        refuse(BEYOND, () -> x.comes(0, 15));
        due(3, x.comes(0, 0));
        due(4, x.comes(1, 7));
    }

    @Boundary(promise = 38, says = "NONE: it never does.")
    void comesNone() {
        laws("a>b");
        x.wave(0, 0, 0);
        refuse(NONE, () -> x.comes(0, 7));
        x.road(0, 7, 9);
        due(9, x.comes(0, 7));
        x.shut(7, 9);
        refuse(NONE, () -> x.comes(0, 7));
        x.shut(7, 10);
        due(9, x.comes(0, 7));
        x.shut(0, 0);
        refuse(NONE, () -> x.comes(0, 0));
        refuse(NONE, () -> x.comes(0, 7));
        refuse(BEYOND, () -> x.comes(0, 8));
    }

    // ---- promise 39

    @Boundary(promise = 39, says = "What a WORD is in the SPEECH of a PLACE in a YEAR.")
    void speechFirstAndLastYear() {
        laws("a>b", "f>-", "b>bb");
        due(w("a"), x.speech(0, 0, w("a")));
        x.wave(0, 0, 0);
        x.wave(1, 7, 999);
        due(w("b"), x.speech(0, 0, w("a")));
        due(LAST_WORD, x.speech(7, 998, LAST_WORD));
        due(0, x.speech(7, 999, LAST_WORD));
        due(0, x.speech(0, 999, 0));
        // what comes in the YEAR 1000 is in no SPEECH
        x.road(0, 7, 1);
        due(1000, x.comes(1, 0));
        due(w("f"), x.speech(0, 999, w("f")));
        // more than eight SOUNDS there are never
        x.wave(2, 0, 5);
        due(w("bbbbbbbb"), x.speech(0, 5, w("abab")));
        due(w("bbbbb"), x.speech(0, 5, w("ababa")));
    }

    @Boundary(promise = 39, says = "BEYOND: no such PLACE, YEAR, or word tells none.")
    void speechBeyond() {
        laws("a>b");
        x.wave(0, 7, 0);
        refuseOutside(8, place -> x.speech(place, 0, 0));
        refuseOutside(1000, year -> x.speech(7, year, 0));
        refuseNoWords(word -> x.speech(7, 0, word));
        due(w("b"), x.speech(7, 999, w("a")));
        due(w("a"), x.speech(0, 0, w("a")));
    }

    // ---- promise 40

    @Boundary(promise = 40, says = "A WORD comes to THE LIST: how many it has.")
    void listShortestAndLongest() {
        laws("f>e");
        x.wave(0, 0, 3);
        due(1, x.list(0));
        due(NONE, x.parted(0, 1));
        due(2, x.list(LAST_WORD));
        due(3, x.parted(0, 1));
        // a WORD may come twice
        due(3, x.list(LAST_WORD));
        due(3, x.told(6));
    }

    @Boundary(promise = 40, says = "BEYOND: word tells none.")
    void listBeyond() {
        refuseNoWords(word -> x.list(word));
        due(1, x.list(w("a")));
        refuseNoWords(word -> x.list(word));
        due(2, x.list(LAST_WORD));
        due(2, x.told(6));
    }

    @Boundary(promise = 40, says = "FULL.")
    void listFull() {
        laws("b>c");
        x.wave(0, 0, 0);
        for (int i = 1; i <= 12; i++) {
            due(i, x.list(w("a")));
        }
        refuse(FULL, () -> x.list(w("b")));
        refuse(FULL, () -> x.list(0));
        refuse(BEYOND, () -> x.list(7));
        refuse(BEYOND, () -> x.list(-1));
        due(NONE, x.parted(0, 1));
        due(1, x.speeches(0));
        x.sheet(0, 8, 11);
        due(11, x.read(0));
        due(12, x.list(w("b")));
        due(0, x.parted(0, 1));
        due(FULL, x.list(w("b")));
    }

    // ---- promise 41

    @Boundary(promise = 41, says = "How many PLACES there are in a YEAR of which no two SPEAK ALIKE (one of each that do).")
    void speechesFromOneToEight() {
        laws("a>b", "a>c", "a>d", "a>e", "a>f", "a>-", "a>aa");
        for (int i = 0; i < 7; i++) {
            due(i, x.wave(i, i, 10 * i));
        }
        due(1, x.speeches(999));
        due(1, x.list(w("a")));
        for (int i = 0; i < 7; i++) {
            due(i == 0 ? BEYOND : i + 1, x.speeches(10 * i - 1));
            due(i + 2, x.speeches(10 * i));
        }
        due(8, x.speeches(999));
        // the last PLACE says c then, as another one does
        due(7, x.wave(1, 7, 999));
        due(8, x.speeches(998));
        due(7, x.speeches(999));
    }

    @Boundary(promise = 41, says = "BEYOND: no such YEAR.")
    void speechesBeyond() {
        laws("a>b");
        x.wave(0, 0, 999);
        x.list(w("a"));
        refuseOutside(1000, year -> x.speeches(year));
        due(1, x.speeches(0));
        due(1, x.speeches(998));
        due(2, x.speeches(999));
    }

    // ---- promise 42

    @Boundary(promise = 42, says = "The first YEAR in which two PLACES don't SPEAK ALIKE.")
    void partedFirstAndLastYear() {
        laws("a>b", "b>a");
        x.list(w("a"));
        x.wave(0, 0, 0);
        due(0, x.parted(0, 1));
        due(0, x.parted(1, 0));
        x.wave(0, 7, 999);
        due(999, x.parted(7, 1));
        // they SPEAK ALIKE again from 999 on
        due(0, x.parted(0, 7));
        // a comes back at once, so it is never heard
        x.wave(0, 3, 500);
        x.wave(1, 3, 500);
        due(NONE, x.parted(3, 4));
        x.wave(1, 0, 0);
        due(NONE, x.parted(0, 1));
    }

    @Boundary(promise = 42, says = "The first YEAR in which two PLACES don't SPEAK ALIKE.")
    void partedBehindManyYears() {
        laws("c>d", "a>b");
        x.list(w("a"));
        for (int i = 0; i < 7; i++) {
            x.wave(0, i % 2, 100 * i);
        }
        due(NONE, x.parted(0, 1));
        due(7, x.wave(1, 1, 998));
        due(998, x.parted(0, 1));
        x.road(0, 1, 1);
        // in 999 it comes to the other one
        due(998, x.parted(0, 1));
        due(999, x.parted(0, 2));
    }

    @Boundary(promise = 42, says = "BEYOND: no such PLACE (either).")
    void partedBeyond() {
        refuseOutside(8, a -> x.parted(a, 0));
        refuseOutside(8, b -> x.parted(7, b));
        refuse(BEYOND, () -> x.parted(8, 8));
        refuse(BEYOND, () -> x.parted(-1, -1));
        laws("a>b");
        x.list(w("a"));
        x.wave(0, 7, 5);
        due(5, x.parted(0, 7));
        due(5, x.parted(7, 0));
    }

    @Boundary(promise = 42, says = "NONE: there is none.")
    void partedNone() {
        laws("a>b");
        x.wave(0, 0, 995);
        x.road(0, 1, 5);
        refuse(NONE, () -> x.parted(0, 1));
        x.list(w("b"));
        refuse(NONE, () -> x.parted(0, 1));
        x.list(w("a"));
        due(995, x.parted(0, 1));
        refuse(NONE, () -> x.parted(0, 0));
        refuse(NONE, () -> x.parted(6, 7));
        // it comes to 1 in the YEAR 1000, which is none
        refuse(NONE, () -> x.parted(1, 2));
        x.road(0, 1, 4);
        due(999, x.parted(1, 2));
        x.shut(0, 995);
        refuse(NONE, () -> x.parted(0, 1));
    }
}

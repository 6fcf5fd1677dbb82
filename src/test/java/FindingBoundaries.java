import java.util.ArrayList;
import java.util.List;

/** Boundary cases of all calls alike: which finding is told, how it is told, and what it leaves as it was. */
final class FindingBoundaries extends Boundaries {

    @Boundary(promise = Boundary.WHAT_IT_IS, says = "An object is used for at most 512 calls after it has been made; what later calls answer is free.")
    void theLastCallIsAnswered() {
        for (int i = 1; i < 512; i++) {
            x.told(-1);
        }
        due(511, x.told(9));
    }

    @Boundary(promise = Boundary.WHAT_IT_IS, says = "An object is used for at most 512 calls after it has been made")
    void theLastCallOfMuchWork() {
        x.feed('V' | '>' << 8 | 'b' << 16, 3);
        x.law();
        for (int t = 0; t < 8; t++) {
            x.tongue(t - 1);
        }
        x.match();
        x.find(0, 7, w("b"), 0);
        // twelve calls so far, then 499 that make all FORMS anew
        for (int i = 0; i < 83; i++) {
            x.take(0, 0);
            x.mothers(0, 0);
            x.leave(0);
            x.mothers(0, 0);
            x.vowel(2, i % 2 == 0);
            x.best(0, 0);
        }
        x.take(0, 0);
        // all but a, b, c, e become no b
        due(4, x.mothers(0, 0));
    }

    @Boundary(promise = Boundary.TERMS, says = "FINDINGS are answers below -1000000: -1000001 BEYOND, -1000002 FULL, -1000003 KIND, -1000004 NONE, "
        + "-1000005 STATE, -1000006 MISSING, -1000007 SIZE, and -1000100 WRONG (and less).")
    void eachFindingByItsNumber() {
        due(-1000001, x.told(10));
        for (int i = 0; i < 10; i++) {
            x.match();
        }
        due(-1000002, x.match());
        laws("a>b");
        due(-1000003, x.as(0, 1));
        tongue(-1);
        due(-1000004, x.leave(0));
        due(-1000005, x.lent(0, 0, 0));
        due(-1000006, x.read(0));
        due(-1000007, x.sheet(0, 8, -1));
        due(-1000100, x.law());
        due(-1000112, law("a>bc/d_e!f_#a"));
        due(9, x.told(9));
    }

    @Boundary(promise = Boundary.TERMS, says = "Sets are told by bits.")
    void setsFromNoneToAll() {
        for (int sound = 0; sound < 6; sound++) {
            x.vowel(sound, false);
        }
        due(0, x.told(8));
        for (int sound = 0; sound < 6; sound++) {
            x.vowel(sound, true);
            due((2 << sound) - 1, x.told(8));
        }
        laws("a>b");
        due(0, x.holds(0, w("bbbbbbbb")));
        due(255, x.holds(0, w("aaaaaaaa")));
        matches(1);
        for (int t = 0; t < 8; t++) {
            tongue(-1);
            x.find(0, t, LAST_WORD, t);
            due((2 << t) - 1, x.breakers(0, t));
        }
        due(0, x.doubt(0, 7, 0));
        for (int t = 0; t < 8; t++) {
            x.find(0, t, -1, 8);
        }
        due(127, x.doubt(0, 8, 4));
        due(63, x.doubt(0, 8, 0));
        due(0, x.breakers(0, 8));
    }

    // ---- YEARS

    @Boundary(promise = Boundary.TERMS, says = "YEARS are 0 to 999.")
    void yearsOfMatches() {
        laws("a>b");
        tongue(-1, 0);
        tongue(-1);
        matches(1);
        due(0, x.find(0, 0, w("a"), 0));
        due(1, x.find(0, 1, w("a"), 999));
        for (int year : new int[] {0, 999}) {
            due(w("a"), x.known(0, 0, year));
            due(0, x.mothers(0, year));
            due(NONE, x.mother(0, year, 0));
            due(0, x.doubt(0, year, 0));
            due(w("a"), x.best(0, year));
            due(1, x.breakers(0, year));
            due(11, x.lent(0, year, 0));
            due(1, x.leans(0, year));
        }
        refuseOutside(1000, year -> x.find(0, 0, w("a"), year));
        refuseOutside(1000, year -> x.known(0, 0, year));
        refuseOutside(1000, year -> x.mothers(0, year));
        refuseOutside(1000, year -> x.mother(0, year, 0));
        refuseOutside(1000, year -> x.doubt(0, year, 0));
        refuseOutside(1000, year -> x.best(0, year));
        refuseOutside(1000, year -> x.breakers(0, year));
        refuseOutside(1000, year -> x.lent(0, year, 0));
        refuseOutside(1000, year -> x.leans(0, year));
    }

    @Boundary(promise = Boundary.TERMS, says = "YEARS are 0 to 999.")
    void yearsOfTheLand() {
        laws("a>b");
        x.list(w("a"));
        due(0, x.wave(0, 0, 0));
        due(1, x.wave(0, 7, 999));
        due(w("b"), x.speech(0, 0, w("a")));
        due(w("b"), x.speech(7, 999, w("a")));
        due(w("a"), x.speech(7, 998, w("a")));
        due(2, x.speeches(0));
        due(2, x.speeches(999));
        refuseOutside(1000, year -> x.wave(0, 0, year));
        refuseOutside(1000, year -> x.speech(0, year, w("a")));
        refuseOutside(1000, year -> x.speeches(year));
        due(0, x.parted(0, 1));
        due(999, x.parted(7, 1));
    }

    // ---- the order of findings

    @Boundary(promise = Boundary.TERMS, says = "Each act tells its findings in the order in which they are asked")
    void orderOfFindingsOfLawsAndTongues() {
        for (int i = 0; i < 24; i++) {
            law("a>b");
        }
        due(WRONG - 3, law("a>bx"));
        due(FULL, law("a>b"));
        for (int i = 0; i < 5; i++) {
            x.feed(0, 8);
        }
        refuse(BEYOND, () -> x.feed(0, 9));
        refuse(FULL, () -> x.feed(0, 8));
        refuse(BEYOND, () -> x.as(24, 1));
        refuse(KIND, () -> x.as(23, 1));
        for (int t = 0; t < 8; t++) {
            tongue(-1);
        }
        refuse(BEYOND, () -> x.tongue(8));
        refuse(FULL, () -> x.tongue(7));
        for (int i = 0; i < 6; i++) {
            x.take(0, 0);
        }
        refuse(BEYOND, () -> x.take(0, 24));
        refuse(FULL, () -> x.take(0, 23));
        refuse(BEYOND, () -> x.stem(1, 0, -1));
        refuse(NONE, () -> x.stem(1, 0, 0));
    }

    @Boundary(promise = Boundary.TERMS, says = "Each act tells its findings in the order in which they are asked")
    void orderOfFindingsOfMatches() {
        tongue(-1);
        matches(10);
        for (int i = 0; i < 60; i++) {
            x.find(0, 0, LAST_WORD, 5);
        }
        refuse(BEYOND, () -> x.find(10, 0, 0, 4));
        refuse(BEYOND, () -> x.find(0, 1, 0, 4));
        refuse(BEYOND, () -> x.find(0, 0, 7, 4));
        refuse(STATE, () -> x.find(0, 0, 0, 4));
        refuse(FULL, () -> x.find(0, 0, 0, 5));
        refuse(BEYOND, () -> x.known(1, 1, 5));
        refuse(NONE, () -> x.known(1, 0, 5));
        refuse(BEYOND, () -> x.mother(0, 5, -1));
        refuse(NONE, () -> x.mother(0, 5, 0));
        refuse(BEYOND, () -> x.lent(0, 5, 1));
        refuse(STATE, () -> x.lent(0, 4, 0));
        refuse(NONE, () -> x.lent(0, 5, 0));
    }

    @Boundary(promise = Boundary.TERMS, says = "Each act tells its findings in the order in which they are asked")
    void orderOfFindingsOfPairsAndLand() {
        for (int i = 0; i < 6; i++) {
            x.pair(0, w("a"));
        }
        refuse(BEYOND, () -> x.pair(0, 7));
        refuse(FULL, () -> x.pair(0, 0));
        refuse(BEYOND, () -> x.simple(-1, 0));
        refuse(BEYOND, () -> x.simple(0, 3));
        refuse(NONE, () -> x.simple(0, 0));
        refuse(BEYOND, () -> x.proof(6));
        refuse(NONE, () -> x.proof(5));
        laws("a>b");
        for (int i = 0; i < 8; i++) {
            x.wave(0, 0, 0);
        }
        refuse(BEYOND, () -> x.wave(1, 0, 0));
        refuse(FULL, () -> x.wave(0, 0, 0));
        refuse(BEYOND, () -> x.comes(0, 8));
        refuse(NONE, () -> x.comes(0, 7));
        for (int i = 0; i < 12; i++) {
            x.list(0);
        }
        refuse(BEYOND, () -> x.list(7));
        refuse(FULL, () -> x.list(0));
        refuse(BEYOND, () -> x.parted(0, 8));
        refuse(NONE, () -> x.parted(0, 7));
    }

    @Boundary(promise = Boundary.TERMS, says = "Each act tells its findings in the order in which they are asked")
    void orderOfFindingsOfSheets() {
        refuse(BEYOND, () -> x.sheet(0, 7, -1));
        refuse(SIZE, () -> x.sheet(0, 8, -1));
        refuse(BEYOND, () -> x.write(4, -1, 0));
        refuse(MISSING, () -> x.write(3, -1, 0));
        due(1, x.sheet(3, 8, 1));
        refuse(BEYOND, () -> x.write(3, -1, 0));
        refuse(BEYOND, () -> x.copy(3, -1, 4, 0, 0));
        refuse(MISSING, () -> x.copy(3, -1, 0, 0, 0));
        due(1, x.sheet(0, 16, 1));
        refuse(KIND, () -> x.copy(3, -1, 0, 0, 0));
        due(1, x.sheet(0, 8, 1));
        refuse(BEYOND, () -> x.copy(3, -1, 0, 0, 0));
        due(1, x.copy(3, 0, 0, 0, 1));
    }

    // ---- a finding changes nothing

    /** One of all that there is. */
    private void makeAll() {
        laws("a>b", "b>c/V_", "c>cc!#_");
        tongue(-1, 0, 1);
        tongue(0, 2);
        x.script(1, 2, 0);
        matches(1);
        x.find(0, 0, w("cb"), 5);
        x.find(0, 1, w("a"), 6);
        x.pair(w("ab"), w("cd"));
        x.road(0, 1, 3);
        x.shut(2, 50);
        x.wave(0, 0, 10);
        x.wave(1, 1, 12);
        x.list(w("ab"));
        x.sheet(0, 8, 2);
        x.write(0, 1, 9);
        x.vowel(5, true);
        x.feed('a', 1);
    }

    private List<Integer> answers() {
        List<Integer> answers = new ArrayList<>();
        for (int what = 0; what < 9; what++) {
            answers.add(x.told(what));
            answers.add(x.about(2, what));
        }
        for (int t = 0; t < 2; t++) {
            answers.add(x.own(t, 0));
            answers.add(x.form(t, w("abcab")));
            answers.add(x.written(t, w("abcab")));
            answers.add(x.known(0, t, 6));
            answers.add(x.speech(t, 14, w("abeb")));
            answers.add(x.simple(t, 1));
            answers.add(x.comes(t, 1 - t));
        }
        answers.add(x.own(0, 1));
        answers.add(x.mothers(0, 5));
        answers.add(x.best(0, 6));
        answers.add(x.breakers(0, 6));
        answers.add(x.leans(0, 6));
        answers.add(x.proof(0));
        answers.add(x.speeches(14));
        answers.add(x.parted(0, 1));
        answers.add(x.road(0, 1, 3));
        answers.add(x.shut(2, 50));
        answers.add(x.write(0, 0, 0));
        answers.add(x.write(0, 1, 9));
        answers.add(x.script(1, 2, 0));
        return answers;
    }

    private void dueSame(List<Integer> before) {
        List<Integer> after = answers();
        due(before.size(), after.size());
        for (int i = 0; i < before.size(); i++) {
            due(before.get(i), after.get(i));
        }
    }

    @Boundary(promise = Boundary.TERMS, says = "an act that answers one changes nothing but what told(9) tells, or where told.")
    void refusedActsOfTonguesAndMatchesChangeNothing() {
        makeAll();
        List<Integer> before = answers();
        int[] findings = {x.vowel(6, false), x.feed('x', 0), x.feed('x', 9), x.as(0, 3), x.about(3, 0), x.run(3, 1), x.holds(0, 7),
            x.tongue(2), x.tongue(-2), x.take(2, 0), x.take(0, 3), x.leave(2), x.leave(-1), x.swap(0, 1), x.swap(1, 0), x.own(1, 1),
            x.form(2, 1), x.order(0, 1), x.script(1, 2, 6), x.script(1, 6, 1), x.script(1, 2, -2), x.written(2, 1), x.back(0, 7),
            x.stem(0, 1, -1), x.find(0, 0, w("b"), 5), x.find(0, 0, 7, 6), x.find(1, 0, 1, 6), x.find(0, 2, 1, 6), x.known(0, 0, 4),
            x.mothers(1, 0), x.mother(0, 5, 9999), x.doubt(0, 5, 5), x.best(1, 0), x.breakers(0, 1000), x.lent(0, 4, 0), x.leans(3, 0)};
        int counted = x.told(9);
        for (int finding : findings) {
            due(1, finding < -1000000 ? 1 : 0);
        }
        due(findings.length, counted);
        dueSame(before);
    }

    @Boundary(promise = Boundary.TERMS, says = "an act that answers one changes nothing but what told(9) tells, or where told.")
    void refusedActsOfLandAndSheetsChangeNothing() {
        makeAll();
        List<Integer> before = answers();
        int[] findings = {x.pair(7, 0), x.pair(0, 7), x.simple(2, 0), x.simple(0, 3), x.proof(1), x.road(0, 0, 1), x.road(0, 1, 10),
            x.road(0, 8, 1), x.road(0, 1, -1), x.shut(2, 1001), x.shut(2, -1), x.shut(8, 0), x.wave(3, 0, 0), x.wave(0, 8, 0),
            x.wave(0, 0, 1000), x.comes(2, 0), x.comes(0, 7), x.speech(0, 1000, 1), x.list(7), x.speeches(1000), x.parted(0, 8),
            x.parted(6, 7), x.sheet(0, 7, 1), x.sheet(0, 8, 13), x.sheet(0, 0, -1), x.sheet(0, 0, 13), x.write(0, 2, 5),
            x.write(0, -1, 5), x.write(1, 0, 5), x.copy(0, 1, 0, 0, 2), x.copy(0, 0, 1, 0, 1), x.copy(0, 0, 0, 1, -1), x.read(1),
            x.read(4), x.told(10)};
        int counted = x.told(9);
        for (int finding : findings) {
            due(1, finding < -1000000 ? 1 : 0);
        }
        due(findings.length, counted);
        dueSame(before);
    }

    @Boundary(promise = Boundary.TERMS, says = "or where told")
    void aWrongTextEmptiesTheTape() {
        makeAll();
        List<Integer> before = answers();
        due(WRONG - 1, x.law());
        due(0, x.told(7));
        due(1, x.feed('a', 1));
        dueSame(before);
    }
}

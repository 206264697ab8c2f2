import java.lang.reflect.InvocationTargetException;

/** Boundary cases of promises 10 to 15: beliefs behind rounds and rounds that catch for sure, each a test of its own. */
final class HuntEdgesTest {
    private static final int INVALID = BlindHunts.INVALID_ARGUMENT;
    private static final int IMPOSSIBLE = BlindHunts.NOT_POSSIBLE;
    private static final int MISSING = BlindHunts.NOT_FOUND;
    /** Far outside of every range; a shift or a mask would make some of them small again. */
    private static final int[] FAR = {Integer.MIN_VALUE, Integer.MAX_VALUE, 1 << 30, 128, 256, 65536, -2, -8, -128, -65536};

    private HuntEdgesTest() {
    }

    public static void main(String[] args) throws IllegalAccessException, InvocationTargetException {
        Edges.run(HuntEdgesTest.class);
    }

    // ---- promise 10

    @Of(promise = 10, says = {"`belief`: a set of places", "INVALID_ARGUMENT if an argument is out of range", "so is a set with a bit for no place"})
    static void behindABeliefInAPlaceOneTooLarge() {
        for (int places = 0; places <= 7; places++) {
            Due.is("behind, the bit " + places, Given.country("0000000".substring(0, places)).behind(1 << places, 0, 0), INVALID);
        }
    }

    @Of(promise = 10, says = "INVALID_ARGUMENT if an argument is out of range")
    static void behindABeliefOneBelowTheEmptySet() {
        Due.is("behind(-1, 0, 0)", Given.row(7).behind(-1, 0, 0), INVALID);
    }

    @Of(promise = 10, says = {"`places`: the set of places that are checked", "INVALID_ARGUMENT if an argument is out of range", "so is a set with a bit for no place"})
    static void behindACheckOfAPlaceOneTooLarge() {
        for (int places = 0; places <= 7; places++) {
            Due.is("behind, the bit " + places, Given.country("0000000".substring(0, places)).behind(0, 1 << places, 0), INVALID);
        }
    }

    @Of(promise = 10, says = "INVALID_ARGUMENT if an argument is out of range")
    static void behindACheckOneBelowTheEmptySet() {
        Due.is("behind(127, -1, 0)", Given.row(7).behind(127, -1, 0), INVALID);
    }

    @Of(promise = 10, says = {"`signal`: 0 to 3, or -1 for all signals together", "INVALID_ARGUMENT if an argument is out of range"})
    static void behindASignalOneTooSmall() {
        Due.is("behind(7, 0, -2)", Given.row(3).behind(7, 0, -2), INVALID);
    }

    @Of(promise = 10, says = {"`signal`: 0 to 3, or -1 for all signals together", "INVALID_ARGUMENT if an argument is out of range"})
    static void behindASignalOneTooLarge() {
        Due.is("behind(7, 0, 4)", Given.row(3).behind(7, 0, 4), INVALID);
        Due.is("behind(0, 0, 4)", Given.row(3).behind(0, 0, 4), INVALID);
    }

    @Of(promise = 10, says = "INVALID_ARGUMENT if an argument is out of range")
    static void behindFarOut() {
        for (int far : FAR) {
            Due.is("behind(" + far + ", 0, 0)", Given.row(7).behind(far, 0, 0), INVALID);
            Due.is("behind(0, " + far + ", 0)", Given.row(7).behind(0, far, 0), INVALID);
            Due.is("behind(0, 0, " + far + ")", Given.row(7).behind(0, 0, far), INVALID);
        }
    }

    @Of(promise = 10, says = "`signal`: 0 to 3, or -1 for all signals together")
    static void behindSignalsAtBothEnds() {
        BlindHunts x = Given.settings(Given.ring(), 0, 1, 1);
        Due.is("behind(15, 0, 0)", x.behind(15, 0, 0), 1);
        Due.is("behind(15, 0, 3)", x.behind(15, 0, 3), 8);
    }

    @Of(promise = 10, says = {"or -1 for all signals together", "The belief behind a round with a signal is the set of all places to which a hare can have moved"})
    static void behindAllSignalsTogether() {
        BlindHunts x = Given.settings(Given.ring(), 0, 1, 1);
        Due.is("behind(15, 0, -1)", x.behind(15, 0, -1), 15);
        Due.is("behind(1, 0, -1)", x.behind(1, 0, -1), 10);
        Due.is("behind(3, 1, -1)", x.behind(3, 1, -1), 5);
    }

    @Of(promise = 10, says = "perhaps more than the budget tells")
    static void behindACheckOfMorePlacesThanTheBudget() {
        Due.is("behind(7, 3, 0)", Given.row(3).behind(7, 3, 0), 2);
        BlindHunts x = Given.settings(Given.row(7), 0, 0, 2);
        Due.is("behind(127, 63, 0)", x.behind(127, 63, 0), 32);
        Due.is("behind(127, 127, 0)", x.behind(127, 127, 0), 0);
    }

    @Of(promise = 10, says = {"Returns the set, 0 if the hare is caught for sure", "If all places of the belief are checked, the hare is caught for sure"})
    static void behindAHareThatIsCaught() {
        BlindHunts x = Given.row(7);
        for (int signal = -1; signal <= 3; signal++) {
            Due.is("behind(64, 64, " + signal + ")", x.behind(64, 64, signal), 0);
            Due.is("behind(6, 7, " + signal + ")", x.behind(6, 7, signal), 0);
        }
    }

    @Of(promise = 10, says = "or the signal cannot be heard")
    static void behindASignalThatCannotBeHeard() {
        for (int signal = 1; signal <= 3; signal++) {
            Due.is("behind(7, 0, " + signal + ")", Given.row(3).behind(7, 0, signal), 0);
        }
        BlindHunts x = Given.settings(Given.ring(), 0, 1, 1);
        Due.is("behind(1, 0, 0)", x.behind(1, 0, 0), 0);
        Due.is("behind(1, 0, 2)", x.behind(1, 0, 2), 0);
    }

    @Of(promise = 10, says = "Returns the set, 0 if the hare is caught for sure, or the signal cannot be heard")
    static void behindAnEmptyBelief() {
        for (int signal = -1; signal <= 3; signal++) {
            Due.is("behind(0, 0, " + signal + ") without places", new BlindHunts().behind(0, 0, signal), 0);
            Due.is("behind(0, 127, " + signal + ")", Given.row(7).behind(0, 127, signal), 0);
        }
    }

    @Of(promise = 10, says = "Returns the set")
    static void behindLeavesAllPlaces() {
        BlindHunts x = Given.complete(7);
        Due.is("behind(127, 0, -1)", x.behind(127, 0, -1), 127);
        Due.is("behind(3, 0, 0)", x.behind(3, 0, 0), 127);
        Due.is("behind(127, 63, 0)", x.behind(127, 63, 0), 63);
    }

    @Of(promise = 10, says = {"Returns the set", "but it does not go to a place that is checked in this round"})
    static void behindAShyOneWithAllOtherPlacesChecked() {
        BlindHunts x = Given.settings(Given.complete(7), 3, 2, 1);
        Due.is("behind(127, 126, -1)", x.behind(127, 126, -1), 1);
        Due.is("behind(127, 126, 0), it stays", x.behind(127, 126, 0), 1);
        Due.is("behind(127, 126, 1), it goes", x.behind(127, 126, 1), 0);
        Due.is("behind(127, 124, 1), it goes", x.behind(127, 124, 1), 3);
    }

    @Of(promise = 10, says = {"Returns the belief behind a round", "The changes are the calls of place, road, shut, set, believe, check and play that return no error"})
    static void behindChangesNothing() {
        Look.unchanged(Given::busy, "behind(15, 0, -1)", x -> x.behind(15, 0, -1));
        Look.unchanged(Given::busy, "behind(15, 15, 0)", x -> x.behind(15, 15, 0));
        Look.unchanged(Given::busy, "behind(16, 0, 0)", x -> x.behind(16, 0, 0));
    }

    // ---- promise 11

    @Of(promise = 11, says = {"`belief`: a set of places", "INVALID_ARGUMENT if an argument is out of range", "so is a set with a bit for no place"})
    static void sureOfAPlaceOneTooLarge() {
        for (int places = 0; places <= 7; places++) {
            BlindHunts x = Given.country("0000000".substring(0, places));
            Due.is("sure, the bit " + places, x.sure(1 << places, 0), INVALID);
            Due.is("sure, the bit " + places + ", best check", x.sure(1 << places, 1), INVALID);
        }
    }

    @Of(promise = 11, says = "INVALID_ARGUMENT if an argument is out of range")
    static void sureOneBelowTheEmptySet() {
        Due.is("sure(-1, 0)", Given.row(7).sure(-1, 0), INVALID);
    }

    @Of(promise = 11, says = {"`what`: 0: the rounds that the belief needs", "INVALID_ARGUMENT if an argument is out of range"})
    static void sureWhatOneTooSmall() {
        Due.is("sure(1, -1)", Given.row(3).sure(1, -1), INVALID);
        Due.is("sure(0, -1)", Given.row(3).sure(0, -1), INVALID);
    }

    @Of(promise = 11, says = {"1: its best check", "INVALID_ARGUMENT if an argument is out of range"})
    static void sureWhatOneTooLarge() {
        Due.is("sure(1, 2)", Given.row(3).sure(1, 2), INVALID);
        Due.is("sure(0, 2)", Given.row(3).sure(0, 2), INVALID);
    }

    @Of(promise = 11, says = "INVALID_ARGUMENT if an argument is out of range")
    static void sureFarOut() {
        BlindHunts x = Given.row(7);
        for (int far : FAR) {
            Due.is("sure(" + far + ", 0)", x.sure(far, 0), INVALID);
            Due.is("sure(1, " + far + ")", x.sure(1, far), INVALID);
        }
    }

    @Of(promise = 11, says = {"INVALID_ARGUMENT if an argument is out of range", "NOT_POSSIBLE rather than LIMIT_REACHED, and LIMIT_REACHED rather than NOT_FOUND"})
    static void sureWhatOutOfRangeOfABeliefThatIsNotForSure() {
        Due.is("sure(15, 2)", Given.ring().sure(15, 2), INVALID);
        Due.is("sure(15, -1)", Given.ring().sure(15, -1), INVALID);
    }

    @Of(promise = 11, says = {"`what`: 0: the rounds that the belief needs", "0 if it is empty"})
    static void sureRoundsOfAnEmptyBelief() {
        Due.is("sure(0, 0) without places", new BlindHunts().sure(0, 0), 0);
        Due.is("sure(0, 0)", Given.complete(7).sure(0, 0), 0);
    }

    @Of(promise = 11, says = "1: its best check, 0 if the belief is empty")
    static void sureCheckOfAnEmptyBelief() {
        Due.is("sure(0, 1) without places", new BlindHunts().sure(0, 1), 0);
        Due.is("sure(0, 1)", Given.complete(7).sure(0, 1), 0);
    }

    @Of(promise = 11, says = {"NOT_FOUND if it is not for sure", "If there is no such number, it is not for sure"})
    static void sureRoundsOfABeliefThatIsNotForSure() {
        Due.is("sure(3, 0)", Given.ring().sure(3, 0), MISSING);
        Due.is("sure(127, 0)", Given.complete(7).sure(127, 0), MISSING);
    }

    @Of(promise = 11, says = {"NOT_FOUND if it is not for sure", "If there is no such number, it is not for sure"})
    static void sureCheckOfABeliefThatIsNotForSure() {
        Due.is("sure(3, 1)", Given.ring().sure(3, 1), MISSING);
        Due.is("sure(127, 1)", Given.complete(7).sure(127, 1), MISSING);
    }

    @Of(promise = 11, says = {"Returns the number", "of any places, as many as the budget tells at most) by which it is caught for sure"})
    static void sureOfOnePlaceNeedsOneRound() {
        for (int place = 0; place <= 6; place++) {
            Due.is("sure, place " + place, Given.complete(7).sure(1 << place, 0), 1);
            Due.is("sure, place " + place + ", best check", Given.complete(7).sure(1 << place, 1), 1 << place);
        }
    }

    @Of(promise = 11, says = "of any places, as many as the budget tells at most) by which it is caught for sure")
    static void sureOfAsManyPlacesAsTheBudgetTells() {
        BlindHunts x = Given.settings(Given.complete(7), 1, 0, 2);
        Due.is("sure(96, 0)", x.sure(96, 0), 1);
        Due.is("sure(96, 1)", x.sure(96, 1), 96);
    }

    @Of(promise = 11, says = {"NOT_FOUND if it is not for sure", "as many as the budget tells at most"})
    static void sureOfOnePlaceMoreThanTheBudgetTells() {
        Due.is("sure(96, 0)", Given.complete(7).sure(96, 0), MISSING);
        Due.is("sure(112, 0)", Given.settings(Given.complete(7), 1, 0, 2).sure(112, 0), MISSING);
    }

    @Of(promise = 11, says = {"`what`: 0: the rounds that the belief needs", "otherwise the least number n"})
    static void sureOfTheLongestRow() {
        BlindHunts x = Given.row(7);
        Due.is("sure(127, 0)", x.sure(127, 0), 10);
        Due.is("sure(127, 1)", x.sure(127, 1), 2);
    }

    @Of(promise = 11, says = "for each signal that can be heard, the belief needs less than n rounds")
    static void sureByHearingWhatIsNotForSureWithout() {
        BlindHunts x = Given.settings(Given.ring(), 1, 1, 1);
        Due.is("sure(15, 0)", x.sure(15, 0), 2);
        Due.is("sure(15, 1), nothing is checked", x.sure(15, 1), 0);
    }

    @Of(promise = 11, says = {"for each signal that can be heard, the belief needs less than n rounds", "NOT_FOUND if it is not for sure"})
    static void sureHangsOnTheHighestSignalToo() {
        // Signal 3 is all that is heard, so that nothing is told apart.
        BlindHunts x = Given.settings(Given.country("3333", 0, 1, 0, 2, 0, 3, 1, 2, 1, 3, 2, 3), 1, 1, 1);
        Due.is("sure(3, 0)", x.sure(3, 0), MISSING);
        Due.is("beliefs(1)", x.beliefs(1), 4);
    }

    @Of(promise = 11, says = {"Tells whether the hare can be caught for sure", "a road is open or shut"})
    static void sureBehindAShutRoad() {
        BlindHunts x = Given.ring();
        Due.is("sure(15, 0)", x.sure(15, 0), MISSING);
        x.shut(0, 3, 1);
        Due.is("sure(15, 0), a road is shut", x.sure(15, 0), 4);
        x.shut(0, 3, 0);
        Due.is("sure(15, 0), it is open", x.sure(15, 0), MISSING);
    }

    @Of(promise = 11, says = {"Tells whether the hare can be caught for sure", "1 or 2; at first 1"})
    static void sureBehindAnotherBudget() {
        BlindHunts x = Given.ring();
        Due.is("sure(15, 0)", x.sure(15, 0), MISSING);
        x.set(2, 2);
        Due.is("sure(15, 0), two checks", x.sure(15, 0), 2);
        Due.is("sure(5, 1), two checks", x.sure(5, 1), 5);
        x.set(2, 1);
        Due.is("sure(15, 0), one check", x.sure(15, 0), MISSING);
        Due.is("sure(5, 1), one check", x.sure(5, 1), MISSING);
    }

    @Of(promise = 11, says = {"Tells whether the hare can be caught for sure", "by the kind of signals, which is 0 at first"})
    static void sureBehindOtherSignals() {
        BlindHunts x = Given.ring();
        Due.is("sure(15, 0)", x.sure(15, 0), MISSING);
        x.set(1, 1);
        Due.is("sure(15, 0), colors", x.sure(15, 0), 2);
        x.set(1, 0);
        Due.is("sure(15, 0), no signals", x.sure(15, 0), MISSING);
    }

    @Of(promise = 11, says = {"Tells whether the hare can be caught for sure", "Its kind is 0 at first"})
    static void sureBehindAnotherKindOfHare() {
        BlindHunts x = Given.row(2);
        Due.is("sure(3, 0)", x.sure(3, 0), 2);
        x.set(0, 1);
        Due.is("sure(3, 0), calm", x.sure(3, 0), MISSING);
        x.set(0, 3);
        Due.is("sure(3, 0), shy", x.sure(3, 0), 2);
    }

    @Of(promise = 11, says = {"Tells whether the hare can be caught for sure", "There are at most 7 places"})
    static void sureBehindANewPlace() {
        BlindHunts x = new BlindHunts();
        Due.is("sure(0, 0)", x.sure(0, 0), 0);
        for (int places = 1; places <= 7; places++) {
            x.place(0);
            int all = (1 << places) - 1;
            // Without roads it stays for ever: each place is checked once.
            Due.is("sure(" + all + ", 0)", x.sure(all, 0), places);
            Due.is("deaf(" + all + ")", x.deaf(all), places);
            Due.is("behind(" + all + ", 0, -1)", x.behind(all, 0, -1), all);
        }
    }

    @Of(promise = 11, says = {"Tells whether the hare can be caught for sure", "Between two places there is a road or none"})
    static void sureBehindANewRoad() {
        BlindHunts x = Given.row(3);
        Due.is("sure(7, 0)", x.sure(7, 0), 2);
        Due.is("deaf(7)", x.deaf(7), 2);
        x.road(0, 2);
        Due.is("sure(7, 0), a triangle", x.sure(7, 0), MISSING);
        Due.is("deaf(7), a triangle", x.deaf(7), MISSING);
        Due.is("behind(1, 0, -1), a triangle", x.behind(1, 0, -1), 6);
    }

    @Of(promise = 11, says = {"1: its best check", "the one with the lowest number as a set"})
    static void sureCheckIsTheLowestOfSome() {
        Due.is("sure(3, 1), 1 or 2", Given.row(2).sure(3, 1), 1);
        Due.is("sure(5, 1), 0 or 1 or 4", Given.row(3).sure(5, 1), 0);
        Due.is("sure(5, 0)", Given.row(3).sure(5, 0), 2);
    }

    @Of(promise = 11, says = {"1: its best check", "of the checks by which that least n comes"})
    static void sureCheckIsNotALowerOneThatNeedsMore() {
        // Two rounds come by nothing and 0, but one alone by the place itself.
        Due.is("sure(8, 1)", Given.row(4).sure(8, 1), 8);
        Due.is("sure(8, 0)", Given.row(4).sure(8, 0), 1);
    }

    @Of(promise = 11, says = {"1: its best check", "as many as the budget tells at most"})
    static void sureCheckOfLessPlacesThanTheBudgetTells() {
        BlindHunts x = Given.settings(Given.complete(7), 0, 0, 2);
        Due.is("sure(64, 0)", x.sure(64, 0), 1);
        Due.is("sure(64, 1)", x.sure(64, 1), 64);
        Due.is("sure(1, 1)", x.sure(1, 1), 1);
    }

    @Of(promise = 11, says = {"1: its best check", "a check (of any places"})
    static void sureCheckHoldsAPlaceOutsideTheBelief() {
        // With 0 checked a shy hare at 2 stays there, so that 2 and 3 are left for the second round.
        BlindHunts x = Given.settings(Given.country("0000", 0, 2), 3, 0, 2);
        Due.is("sure(14, 0)", x.sure(14, 0), 2);
        Due.is("sure(14, 1)", x.sure(14, 1), 3);
    }

    @Of(promise = 11, says = {"Tells whether the hare can be caught for sure", "The changes are the calls of place, road, shut, set, believe, check and play that return no error"})
    static void sureChangesNothing() {
        Look.unchanged(Given::busy, "sure(15, 0)", x -> x.sure(15, 0));
        Look.unchanged(Given::busy, "sure(15, 1)", x -> x.sure(15, 1));
        Look.unchanged(Given::busy, "sure(16, 0)", x -> x.sure(16, 0));
    }

    /** Six places with a ring of three, a way off it, and one apart, so that beliefs of all sorts come; settings from 0 to 31. */
    private static BlindHunts mixed(int settings) {
        BlindHunts x = Given.country("012010", 0, 1, 1, 2, 2, 0, 2, 3, 3, 4);
        return Given.settings(x, settings & 3, (settings >> 2) & 3, 1 + (settings >> 4));
    }

    /**
     * The least number and the lowest check by which it comes, found for a belief by the words of "For sure"
     * from the rounds that the beliefs behind its checks need.
     */
    private static int[] byWords(BlindHunts x, int belief, int[] rounds, boolean hears) {
        int[] found = {MISSING, MISSING};
        int budget = x.count(22);
        for (int places = 0; places <= 63; places++) {
            int most = Integer.bitCount(places) <= budget ? 0 : MISSING;
            for (int signal = hears ? 0 : -1; signal <= (hears ? 3 : -1) && most != MISSING; signal++) {
                int needed = rounds[x.behind(belief, places, signal)];
                most = needed == MISSING ? MISSING : Math.max(most, needed);
            }
            if (most != MISSING && (found[0] == MISSING || most + 1 < found[0])) {
                found[0] = most + 1;
                found[1] = places;
            }
        }
        return found;
    }

    private static void eachBeliefIsAsItsWordsSay(boolean hears) {
        for (int settings = 0; settings <= 31; settings++) {
            BlindHunts asked = mixed(settings);
            int[] rounds = new int[64];
            for (int belief = 0; belief <= 63; belief++) {
                rounds[belief] = hears ? asked.sure(belief, 0) : asked.deaf(belief);
            }
            Due.is("settings " + settings + ", rounds of 0", rounds[0], 0);
            for (int belief = 1; belief <= 63; belief++) {
                int[] words = byWords(mixed(settings), belief, rounds, hears);
                Due.is("settings " + settings + ", rounds of " + belief, rounds[belief], words[0]);
                if (hears) {
                    Due.is("settings " + settings + ", best check of " + belief, asked.sure(belief, 1), words[1]);
                }
            }
        }
    }

    @Of(promise = 11, says = {"The rounds that a belief needs: 0 if it is empty; otherwise the least number n for which there is a check (of any places, "
        + "as many as the budget tells at most) by which it is caught for sure, or behind which, for each signal that can be heard, the belief needs less than n rounds",
        "If there is no such number, it is not for sure",
        "The best check of a belief is, of the checks by which that least n comes, the one with the lowest number as a set"})
    static void sureOfEachBeliefIsAsItsWordsSay() {
        eachBeliefIsAsItsWordsSay(true);
    }

    // ---- promise 12

    @Of(promise = 12, says = "Without hearing: likewise, but the belief behind a check is that of all signals together")
    static void deafOfEachBeliefIsAsItsWordsSay() {
        eachBeliefIsAsItsWordsSay(false);
    }

    @Of(promise = 12, says = {"`belief`: a set of places", "INVALID_ARGUMENT", "so is a set with a bit for no place"})
    static void deafOfAPlaceOneTooLarge() {
        for (int places = 0; places <= 7; places++) {
            Due.is("deaf, the bit " + places, Given.country("0000000".substring(0, places)).deaf(1 << places), INVALID);
        }
    }

    @Of(promise = 12, says = "INVALID_ARGUMENT")
    static void deafOneBelowTheEmptySet() {
        Due.is("deaf(-1)", Given.row(7).deaf(-1), INVALID);
    }

    @Of(promise = 12, says = "INVALID_ARGUMENT")
    static void deafFarOut() {
        for (int far : FAR) {
            Due.is("deaf(" + far + ")", Given.row(7).deaf(far), INVALID);
        }
    }

    @Of(promise = 12, says = {"Tells the rounds that a belief needs without hearing", "0 if it is empty"})
    static void deafOfAnEmptyBelief() {
        Due.is("deaf(0) without places", new BlindHunts().deaf(0), 0);
        Due.is("deaf(0)", Given.complete(7).deaf(0), 0);
    }

    @Of(promise = 12, says = {"NOT_FOUND if it is not for sure", "but the belief behind a check is that of all signals together"})
    static void deafOfABeliefThatIsForSureByHearingAlone() {
        BlindHunts x = Given.settings(Given.ring(), 0, 1, 1);
        Due.is("deaf(15)", x.deaf(15), MISSING);
        Due.is("deaf(3)", x.deaf(3), MISSING);
        Due.is("sure(15, 0)", x.sure(15, 0), 2);
    }

    @Of(promise = 12, says = {"Returns the number", "Tells the rounds that a belief needs without hearing"})
    static void deafOfOnePlaceNeedsOneRound() {
        Due.is("deaf(1)", Given.complete(7).deaf(1), 1);
        Due.is("deaf(64)", Given.complete(7).deaf(64), 1);
    }

    @Of(promise = 12, says = {"Tells the rounds that a belief needs without hearing", "as many as the budget tells at most"})
    static void deafOfAsManyPlacesAsTheBudgetTellsAndOneMore() {
        BlindHunts x = Given.settings(Given.complete(7), 1, 1, 2);
        Due.is("deaf(96)", x.deaf(96), 1);
        Due.is("deaf(112)", x.deaf(112), MISSING);
    }

    @Of(promise = 12, says = {"Tells the rounds that a belief needs without hearing", "Without hearing: likewise"})
    static void deafOfTheLongestRow() {
        Due.is("deaf(127)", Given.settings(Given.row(7), 0, 3, 1).deaf(127), 10);
    }

    @Of(promise = 12, says = {"Tells the rounds that a belief needs without hearing", "The changes are the calls of place, road, shut, set, believe, check and play that return no error"})
    static void deafChangesNothing() {
        Look.unchanged(Given::busy, "deaf(15)", x -> x.deaf(15));
        Look.unchanged(Given::busy, "deaf(16)", x -> x.deaf(16));
    }

    // ---- promise 13

    @Of(promise = 13, says = {"`belief`: a set of places", "INVALID_ARGUMENT", "so is a set with a bit for no place"})
    static void memoryOfAPlaceOneTooLarge() {
        for (int places = 0; places <= 7; places++) {
            Due.is("memory, the bit " + places, Given.country("0000000".substring(0, places)).memory(1 << places), INVALID);
        }
    }

    @Of(promise = 13, says = "INVALID_ARGUMENT")
    static void memoryOneBelowTheEmptySet() {
        Due.is("memory(-1)", Given.row(7).memory(-1), INVALID);
    }

    @Of(promise = 13, says = "INVALID_ARGUMENT")
    static void memoryFarOut() {
        for (int far : FAR) {
            Due.is("memory(" + far + ")", Given.row(7).memory(far), INVALID);
        }
    }

    @Of(promise = 13, says = "NOT_FOUND if it is not for sure")
    static void memoryOfABeliefThatIsNotForSure() {
        Due.is("memory(3)", Given.ring().memory(3), MISSING);
        Due.is("memory(127)", Given.complete(7).memory(127), MISSING);
    }

    @Of(promise = 13, says = "the empty one not")
    static void memoryOfAnEmptyBelief() {
        Due.is("memory(0) without places", new BlindHunts().memory(0), 0);
        Due.is("memory(0)", Given.complete(7).memory(0), 0);
    }

    @Of(promise = 13, says = {"this one too", "the empty one not"})
    static void memoryOfABeliefThatIsCaughtAtOnce() {
        Due.is("memory(64)", Given.complete(7).memory(64), 1);
        Due.is("memory(96)", Given.settings(Given.complete(7), 0, 0, 2).memory(96), 1);
    }

    @Of(promise = 13, says = {"Returns how many", "until the hare is caught"})
    static void memoryOfTheLongestRow() {
        Due.is("memory(127)", Given.row(7).memory(127), 10);
    }

    @Of(promise = 13, says = {"Counts the unlike beliefs that can come", "if the best check is made in each round"})
    static void memoryCountsABeliefThatComesTwiceOnce() {
        // 1 is checked: it is heard to stay at 0 or 2, or to go to 1; then 0 is checked, and it stays at 2 or goes to 1.
        BlindHunts x = Given.settings(Given.row(3), 1, 2, 1);
        Due.is("sure(7, 1)", x.sure(7, 1), 2);
        Due.is("memory(7)", x.memory(7), 4);
    }

    @Of(promise = 13, says = {"Counts the unlike beliefs that can come", "The changes are the calls of place, road, shut, set, believe, check and play that return no error"})
    static void memoryChangesNothing() {
        Look.unchanged(Given::busy, "memory(15)", x -> x.memory(15));
        BlindHunts x = Given.row(7);
        x.memory(127);
        Due.is("memory(1) behind a larger one", x.memory(1), 1);
        Due.is("memory(127) again", x.memory(127), 10);
    }

    // ---- promise 14

    @Of(promise = 14, says = {"`what`: 0: how many there are", "INVALID_ARGUMENT if what is out of range"})
    static void beliefsWhatOneTooSmall() {
        Due.is("beliefs(-1)", Given.row(3).beliefs(-1), INVALID);
    }

    @Of(promise = 14, says = {"4: how many are for sure without hearing", "INVALID_ARGUMENT if what is out of range"})
    static void beliefsWhatOneTooLarge() {
        Due.is("beliefs(5)", Given.row(3).beliefs(5), INVALID);
    }

    @Of(promise = 14, says = "INVALID_ARGUMENT if what is out of range")
    static void beliefsFarOut() {
        for (int far : FAR) {
            Due.is("beliefs(" + far + ")", Given.row(3).beliefs(far), INVALID);
            Due.is("beliefs(" + far + ") without places", new BlindHunts().beliefs(far), INVALID);
        }
    }

    @Of(promise = 14, says = {"Returns something of all beliefs that are not empty", "`what`: 0: how many there are"})
    static void beliefsAreFromNoneToAll() {
        for (int places = 0; places <= 7; places++) {
            Due.is("beliefs(0)", Given.country("0000000".substring(0, places)).beliefs(0), (1 << places) - 1);
        }
    }

    @Of(promise = 14, says = {"Returns something of all beliefs that are not empty", "1: how many of these are for sure"})
    static void beliefsForSureWithoutPlaces() {
        Due.is("beliefs(1)", new BlindHunts().beliefs(1), 0);
    }

    @Of(promise = 14, says = "2: the most rounds that one of these needs (0 if there is none)")
    static void beliefsMostRoundsWithoutPlaces() {
        Due.is("beliefs(2)", new BlindHunts().beliefs(2), 0);
    }

    @Of(promise = 14, says = "NOT_FOUND for 3 if there is none")
    static void beliefsHardestWithoutPlaces() {
        Due.is("beliefs(3)", new BlindHunts().beliefs(3), MISSING);
        BlindHunts x = Given.country("0");
        x.undo();
        Due.is("beliefs(3), the only place is undone", x.beliefs(3), MISSING);
    }

    @Of(promise = 14, says = {"Returns something of all beliefs that are not empty", "4: how many are for sure without hearing"})
    static void beliefsForSureWithoutHearingWithoutPlaces() {
        Due.is("beliefs(4)", new BlindHunts().beliefs(4), 0);
    }

    @Of(promise = 14, says = {"Returns something of all beliefs that are not empty", "3: the lowest one that needs so many"})
    static void beliefsOfOnePlace() {
        BlindHunts x = Given.row(1);
        for (int what = 0; what <= 4; what++) {
            Due.is("beliefs(" + what + ")", x.beliefs(what), 1);
        }
    }

    @Of(promise = 14, says = {"Returns the number", "1: how many of these are for sure", "4: how many are for sure without hearing"})
    static void beliefsForSureAreAll() {
        BlindHunts x = Given.row(7);
        Due.is("beliefs(1)", x.beliefs(1), 127);
        Due.is("beliefs(4)", x.beliefs(4), 127);
    }

    @Of(promise = 14, says = {"1: how many of these are for sure", "4: how many are for sure without hearing"})
    static void beliefsForSureAreThoseOfOnePlaceAlone() {
        BlindHunts x = Given.complete(7);
        Due.is("beliefs(1)", x.beliefs(1), 7);
        Due.is("beliefs(4)", x.beliefs(4), 7);
    }

    @Of(promise = 14, says = {"1: how many of these are for sure", "4: how many are for sure without hearing"})
    static void beliefsForSureByHearingAlone() {
        BlindHunts x = Given.settings(Given.ring(), 1, 1, 1);
        Due.is("beliefs(1)", x.beliefs(1), 15);
        Due.is("beliefs(4)", x.beliefs(4), 4);
    }

    @Of(promise = 14, says = {"2: the most rounds that one of these needs (0 if there is none)", "3: the lowest one that needs so many"})
    static void beliefsHardestIsTheHighestOfAll() {
        BlindHunts x = Given.row(7);
        Due.is("beliefs(2)", x.beliefs(2), 10);
        Due.is("beliefs(3)", x.beliefs(3), 127);
    }

    @Of(promise = 14, says = {"2: the most rounds that one of these needs (0 if there is none)", "3: the lowest one that needs so many"})
    static void beliefsHardestIsTheLowestOfSome() {
        BlindHunts x = Given.complete(7);
        Due.is("beliefs(2)", x.beliefs(2), 1);
        Due.is("beliefs(3), seven need one", x.beliefs(3), 1);
        BlindHunts row = Given.row(3);
        Due.is("beliefs(2), a row", row.beliefs(2), 2);
        Due.is("beliefs(3), a row: 3, 5, 6 and 7 need two", row.beliefs(3), 3);
    }

    @Of(promise = 14, says = {"Returns something of all beliefs that are not empty", "The changes are the calls of place, road, shut, set, believe, check and play that return no error"})
    static void beliefsChangesNothing() {
        for (int what = -1; what <= 5; what++) {
            int asked = what;
            Look.unchanged(Given::busy, "beliefs(" + what + ")", x -> x.beliefs(asked));
        }
    }

    // ---- promise 15

    @Of(promise = 15, says = {"`belief`: a set of places", "INVALID_ARGUMENT", "so is a set with a bit for no place"})
    static void dangersOfAPlaceOneTooLarge() {
        for (int places = 0; places <= 7; places++) {
            Due.is("dangers, the bit " + places, Given.country("0000000".substring(0, places)).dangers(1 << places), INVALID);
        }
    }

    @Of(promise = 15, says = "INVALID_ARGUMENT")
    static void dangersOneBelowTheEmptySet() {
        Due.is("dangers(-1)", Given.row(7).dangers(-1), INVALID);
    }

    @Of(promise = 15, says = "INVALID_ARGUMENT")
    static void dangersFarOut() {
        for (int far : FAR) {
            Due.is("dangers(" + far + ")", Given.row(7).dangers(far), INVALID);
        }
    }

    @Of(promise = 15, says = "NOT_POSSIBLE if the belief is not for sure")
    static void dangersOfABeliefThatIsNotForSure() {
        Due.is("dangers(3)", Given.ring().dangers(3), IMPOSSIBLE);
        Due.is("dangers(127), no place is left to be added", Given.complete(7).dangers(127), IMPOSSIBLE);
    }

    @Of(promise = 15, says = "Returns the places that are not in a belief and by which, one of them alone being added to it, it is not for sure any more")
    static void dangersOfAnEmptyBelief() {
        Due.is("dangers(0) without places", new BlindHunts().dangers(0), 0);
        Due.is("dangers(0)", Given.complete(7).dangers(0), 0);
    }

    @Of(promise = 15, says = "Returns the places that are not in a belief")
    static void dangersOfAllPlaces() {
        Due.is("dangers(127)", Given.row(7).dangers(127), 0);
        Due.is("dangers(1), the only place", Given.row(1).dangers(1), 0);
    }

    @Of(promise = 15, says = {"Returns the places that are not in a belief", "Returns the set of places"})
    static void dangersAreAllOtherPlaces() {
        Due.is("dangers(1)", Given.complete(7).dangers(1), 126);
        Due.is("dangers(64)", Given.complete(7).dangers(64), 63);
        Due.is("dangers(3), two checks", Given.settings(Given.complete(7), 0, 0, 2).dangers(3), 124);
    }

    @Of(promise = 15, says = "one of them alone being added to it")
    static void dangersAreOfOnePlaceAlone() {
        // Two of them together would be too many, but each alone is not.
        Due.is("dangers(1), two checks", Given.settings(Given.complete(7), 0, 0, 2).dangers(1), 0);
    }

    @Of(promise = 15, says = {"Returns the set of places", "The changes are the calls of place, road, shut, set, believe, check and play that return no error"})
    static void dangersChangesNothing() {
        Look.unchanged(Given::busy, "dangers(1)", x -> x.dangers(1));
        Look.unchanged(Given::busy, "dangers(16)", x -> x.dangers(16));
        Look.unchanged(Given::full, "dangers(127)", x -> x.dangers(127));
    }
}

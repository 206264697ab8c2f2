import java.lang.reflect.InvocationTargetException;

/** Boundary cases of promises 6 to 9: rounds, each a test of its own. */
final class RoundEdgesTest {
    private static final int INVALID = BlindHunts.INVALID_ARGUMENT;
    private static final int IMPOSSIBLE = BlindHunts.NOT_POSSIBLE;
    private static final int MISSING = BlindHunts.NOT_FOUND;
    /** Far outside of every range; a shift or a mask would make some of them small again. */
    private static final int[] FAR = {Integer.MIN_VALUE, Integer.MAX_VALUE, 1 << 30, 128, 256, 65536, -2, -8, -128, -65536};

    private RoundEdgesTest() {
    }

    public static void main(String[] args) throws IllegalAccessException, InvocationTargetException {
        Edges.run(RoundEdgesTest.class);
    }

    // ---- promise 6

    @Of(promise = 6, says = {"`belief`: a set of places", "Returns how many places it has"})
    static void believeNothing() {
        BlindHunts x = Given.believing(Given.row(3), 7);
        Due.is("believe(0)", x.believe(0), 0);
        Due.is("count(3)", x.count(3), 0);
        Due.is("believe(0) without places", new BlindHunts().believe(0), 0);
    }

    @Of(promise = 6, says = {"Lets the hunter believe something", "`belief`: a set of places", "Returns how many places it has"})
    static void believeAllPlaces() {
        for (int places = 1; places <= 7; places++) {
            BlindHunts x = Given.row(places);
            int all = (1 << places) - 1;
            Due.is("believe(" + all + ")", x.believe(all), places);
            Due.is("count(3)", x.count(3), all);
        }
    }

    @Of(promise = 6, says = {"`belief`: a set of places", "INVALID_ARGUMENT", "so is a set with a bit for no place"})
    static void believeInAPlaceOneTooLarge() {
        Due.is("believe(1) without places", new BlindHunts().believe(1), INVALID);
        for (int places = 1; places <= 7; places++) {
            Due.is("believe, the bit " + places + " alone", Given.row(places).believe(1 << places), INVALID);
            Due.is("believe, all and the bit " + places, Given.row(places).believe((2 << places) - 1), INVALID);
        }
    }

    @Of(promise = 6, says = {"INVALID_ARGUMENT", "so is a set with a bit for no place"})
    static void believeOneBelowTheEmptySet() {
        Due.is("believe(-1)", Given.row(7).believe(-1), INVALID);
        Due.is("believe(-1) without places", new BlindHunts().believe(-1), INVALID);
    }

    @Of(promise = 6, says = "so is a set with a bit for no place")
    static void believeFarOut() {
        for (int far : FAR) {
            Due.is("believe(" + far + ")", Given.row(7).believe(far), INVALID);
            Due.is("believe(" + far + " and place 0)", Given.row(7).believe(far | 1), INVALID);
        }
    }

    @Of(promise = 6, says = "the rounds are 0 then")
    static void believeForgetsRounds() {
        BlindHunts x = Given.caught();
        Due.is("believe(7)", x.believe(7), 3);
        Due.is("count(4)", x.count(4), 0);
        Due.is("count(5)", x.count(5), 0);
        Due.is("roundOf(0, 0)", x.roundOf(0, 0), MISSING);
    }

    @Of(promise = 6, says = "the rounds are 0 then")
    static void believeWhatIsBelievedAlreadyForgetsRounds() {
        BlindHunts x = Given.caught();
        Due.is("believe(0)", x.believe(0), 0);
        Due.is("count(4)", x.count(4), 0);
        Due.is("count(5), empty without a round", x.count(5), 0);
        Due.is("roundOf(0, 0)", x.roundOf(0, 0), MISSING);
    }

    @Of(promise = 6, says = {"Lets the hunter believe something", "The changes are the calls of place, road, shut, set, believe, check and play that return no error"})
    static void believeWhatIsBelievedAlreadyIsAChangeToo() {
        BlindHunts x = new BlindHunts();
        Due.is("believe(0)", x.believe(0), 0);
        Due.is("count(6)", x.count(6), 1);
        x.place(0);
        x.believe(1);
        Due.is("believe(1) again", x.believe(1), 1);
        Due.is("count(6)", x.count(6), 4);
    }

    @Of(promise = 6, says = {"INVALID_ARGUMENT", "A call that returns an error changes nothing"})
    static void believeInNoPlaceChangesNothing() {
        Look.refused(Given::busy, "believe(16)", x -> x.believe(16), INVALID);
        Look.refused(Given::full, "believe(128)", x -> x.believe(128), INVALID);
        Look.refused(Given::caught, "believe(-1)", x -> x.believe(-1), INVALID);
        Look.refused(BlindHunts::new, "believe(1)", x -> x.believe(1), INVALID);
    }

    // ---- promise 7

    @Of(promise = 7, says = {"`places`: the set of places that are checked", "INVALID_ARGUMENT if an argument is out of range", "so is a set with a bit for no place"})
    static void checkAPlaceOneTooLarge() {
        for (int places = 1; places <= 7; places++) {
            BlindHunts x = Given.believing(Given.row(places), 1);
            Due.is("check, the bit " + places, x.check(1 << places, 0), INVALID);
        }
        Due.is("check(1, 0) without places", new BlindHunts().check(1, 0), INVALID);
    }

    @Of(promise = 7, says = "INVALID_ARGUMENT if an argument is out of range")
    static void checkOneBelowTheEmptySet() {
        Due.is("check(-1, 0)", Given.believing(Given.row(7), 127).check(-1, 0), INVALID);
    }

    @Of(promise = 7, says = "INVALID_ARGUMENT if an argument is out of range")
    static void checkPlacesFarOut() {
        for (int far : FAR) {
            Due.is("check(" + far + ", 0)", Given.believing(Given.row(7), 127).check(far, 0), INVALID);
        }
    }

    @Of(promise = 7, says = {"`signal`: 0 to 3", "INVALID_ARGUMENT if an argument is out of range"})
    static void checkSignalOneTooSmall() {
        Due.is("check(0, -1)", Given.believing(Given.row(3), 7).check(0, -1), INVALID);
        Due.is("check(1, -1), caught", Given.believing(Given.row(3), 1).check(1, -1), INVALID);
    }

    @Of(promise = 7, says = {"`signal`: 0 to 3", "INVALID_ARGUMENT if an argument is out of range"})
    static void checkSignalOneTooLarge() {
        Due.is("check(0, 4)", Given.believing(Given.row(3), 7).check(0, 4), INVALID);
        Due.is("check(1, 4), caught", Given.believing(Given.row(3), 1).check(1, 4), INVALID);
    }

    @Of(promise = 7, says = "INVALID_ARGUMENT if an argument is out of range")
    static void checkSignalFarOut() {
        for (int far : FAR) {
            Due.is("check(0, " + far + ")", Given.believing(Given.row(3), 7).check(0, far), INVALID);
            Due.is("check(1, " + far + "), caught", Given.believing(Given.row(3), 1).check(1, far), INVALID);
        }
    }

    @Of(promise = 7, says = {"`signal`: 0 to 3", "the hunter hears a signal, 0 to 3"})
    static void checkSignalLowest() {
        BlindHunts x = Given.believing(Given.settings(Given.ring(), 0, 1, 1), 10);
        Due.is("check(0, 0)", x.check(0, 0), 1);
        Due.is("count(3)", x.count(3), 1);
    }

    @Of(promise = 7, says = {"`signal`: 0 to 3", "the hunter hears a signal, 0 to 3"})
    static void checkSignalHighest() {
        BlindHunts x = Given.believing(Given.settings(Given.ring(), 0, 1, 1), 5);
        Due.is("check(0, 3)", x.check(0, 3), 1);
        Due.is("count(3)", x.count(3), 8);
    }

    @Of(promise = 7, says = "or there are more places than the budget tells")
    static void checkOnePlaceMoreThanABudgetOfOne() {
        Due.is("check(3, 0)", Given.believing(Given.row(3), 7).check(3, 0), INVALID);
        Due.is("check(3, 0), it would be caught", Given.believing(Given.row(3), 3).check(3, 0), INVALID);
    }

    @Of(promise = 7, says = "or there are more places than the budget tells")
    static void checkOnePlaceMoreThanABudgetOfTwo() {
        BlindHunts x = Given.believing(Given.settings(Given.row(4), 0, 0, 2), 15);
        Due.is("check(7, 0)", x.check(7, 0), INVALID);
        Due.is("check(15, 0)", x.check(15, 0), INVALID);
    }

    @Of(promise = 7, says = {"or there are more places than the budget tells", "at most as many as the budget tells"})
    static void checkAsManyPlacesAsTheBudgetTells() {
        Due.is("check(64, 0)", Given.believing(Given.row(7), 64).check(64, 0), 0);
        BlindHunts x = Given.believing(Given.settings(Given.row(7), 0, 0, 2), 65);
        Due.is("check(65, 0)", x.check(65, 0), 0);
    }

    @Of(promise = 7, says = {"Makes a round", "perhaps none"})
    static void checkNoPlace() {
        BlindHunts x = Given.believing(Given.row(3), 1);
        Due.is("check(0, 0)", x.check(0, 0), 1);
        Due.is("count(3)", x.count(3), 2);
        Due.is("count(4)", x.count(4), 1);
        Due.is("count(5)", x.count(5), 0);
    }

    @Of(promise = 7, says = "or there are more places than the budget tells")
    static void checkWithABudgetThatWasLowered() {
        BlindHunts x = Given.believing(Given.settings(Given.row(3), 0, 0, 2), 7);
        x.set(2, 1);
        Due.is("check(3, 0)", x.check(3, 0), INVALID);
        x.undo();
        Due.is("check(3, 0) behind undo", x.check(3, 0), 1);
    }

    @Of(promise = 7, says = "NOT_POSSIBLE if the belief is empty")
    static void checkWithoutABelief() {
        Due.is("check(0, 0), new", new BlindHunts().check(0, 0), IMPOSSIBLE);
        Due.is("check(0, 0), nothing believed yet", Given.row(7).check(0, 0), IMPOSSIBLE);
        Due.is("check(64, 3), nothing believed yet", Given.row(7).check(64, 3), IMPOSSIBLE);
        Due.is("check(1, 0), nothing is believed", Given.believing(Given.row(3), 0).check(1, 0), IMPOSSIBLE);
    }

    @Of(promise = 7, says = {"NOT_POSSIBLE if the belief is empty", "the belief is empty then, and no signal is heard"})
    static void checkBehindAHareThatIsCaught() {
        BlindHunts x = Given.caught();
        for (int signal = 0; signal <= 3; signal++) {
            Due.is("check(2, " + signal + ")", x.check(2, signal), IMPOSSIBLE);
        }
    }

    @Of(promise = 7, says = {"or there are more places than the budget tells", "INVALID_ARGUMENT is returned rather than NOT_POSSIBLE"})
    static void checkTooMuchWithoutABelief() {
        Due.is("check(3, 0)", Given.row(3).check(3, 0), INVALID);
        Due.is("check(8, 0)", Given.row(3).check(8, 0), INVALID);
        Due.is("check(0, 4)", Given.row(3).check(0, 4), INVALID);
        Due.is("check(0, -1)", new BlindHunts().check(0, -1), INVALID);
    }

    @Of(promise = 7, says = {"or there are more places than the budget tells", "INVALID_ARGUMENT is returned rather than NOT_POSSIBLE"})
    static void checkTooMuchWithASignalThatCannotBeHeard() {
        Due.is("check(3, 1)", Given.believing(Given.row(3), 7).check(3, 1), INVALID);
    }

    @Of(promise = 7, says = {"or this signal cannot be heard", "kind 0: always 0"})
    static void checkWithASignalOfNoKind() {
        for (int signal = 1; signal <= 3; signal++) {
            Due.is("check(0, " + signal + ")", Given.believing(Given.ring(), 15).check(0, signal), IMPOSSIBLE);
        }
    }

    @Of(promise = 7, says = "or this signal cannot be heard")
    static void checkWithASignalOfAPlaceOutOfReach() {
        BlindHunts x = Given.believing(Given.settings(Given.ring(), 0, 1, 1), 1);
        Due.is("check(0, 0)", x.check(0, 0), IMPOSSIBLE);
        Due.is("check(0, 2)", x.check(0, 2), IMPOSSIBLE);
        Due.is("check(0, 3)", x.check(0, 3), 1);
    }

    @Of(promise = 7, says = {"or this signal cannot be heard", "that was at a place of the belief that was not checked"})
    static void checkWithASignalFromACheckedPlaceAlone() {
        BlindHunts x = Given.believing(Given.settings(Given.country("01", 0, 1), 0, 1, 1), 3);
        Due.is("check(1, 1), only one from 0 is heard so", x.check(1, 1), IMPOSSIBLE);
        Due.is("check(1, 0)", x.check(1, 0), 1);
    }

    /** The only signal that is heard when a hare stays at the middle of a star of so many roads. */
    private static void heardInAStar(int roads, int want) {
        BlindHunts x = Given.settings(Given.country("0000000"), 1, 3, 1);
        for (int end = 1; end <= roads; end++) {
            x.road(0, end);
        }
        for (int signal = 0; signal <= 3; signal++) {
            Due.is("behind, " + roads + " roads, signal " + signal, x.behind(1, 0, signal) & 1, signal == want ? 1 : 0);
            x.believe(1);
            boolean heard = signal == want || signal == 1 && roads > 0;
            Due.is("check, " + roads + " roads, signal " + signal, x.check(0, signal) == IMPOSSIBLE ? 0 : 1, heard ? 1 : 0);
        }
    }

    @Of(promise = 7, says = {"or this signal cannot be heard", "kind 3: how many open roads there are at its place"})
    static void checkWithTheNumberOfRoadsWhereNoneIs() {
        heardInAStar(0, 0);
    }

    @Of(promise = 7, says = {"or this signal cannot be heard", "kind 3: how many open roads there are at its place"})
    static void checkWithTheNumberOfRoadsThatIsJustToBeTold() {
        heardInAStar(1, 1);
        heardInAStar(2, 2);
        heardInAStar(3, 3);
    }

    @Of(promise = 7, says = {"or this signal cannot be heard", "but 3 if there are more"})
    static void checkWithTheNumberOfRoadsThatIsTooLargeToBeTold() {
        heardInAStar(4, 3);
        heardInAStar(5, 3);
        heardInAStar(6, 3);
    }

    @Of(promise = 7, says = {"or this signal cannot be heard", "kind 3: how many open roads there are at its place"})
    static void checkWithTheNumberOfRoadsThatAreAllShut() {
        BlindHunts x = Given.settings(Given.country("000", 0, 1, 0, 2), 1, 3, 1);
        x.shut(0, 1, 1);
        x.shut(0, 2, 1);
        x.believe(1);
        Due.is("check(0, 2)", x.check(0, 2), IMPOSSIBLE);
        Due.is("check(0, 1)", x.check(0, 1), IMPOSSIBLE);
        Due.is("check(0, 0)", x.check(0, 0), 1);
    }

    @Of(promise = 7, says = {"or this signal cannot be heard", "kind 2: 1 if its place is another one than before the move, otherwise 0"})
    static void checkWithAMoveThatCannotBe() {
        BlindHunts restless = Given.believing(Given.settings(Given.row(2), 0, 2, 1), 3);
        Due.is("check(0, 0), it always moves", restless.check(0, 0), IMPOSSIBLE);
        Due.is("check(0, 1)", restless.check(0, 1), 2);
        BlindHunts apart = Given.believing(Given.settings(Given.country("00"), 0, 2, 1), 3);
        Due.is("check(0, 1), it always stays", apart.check(0, 1), IMPOSSIBLE);
        Due.is("check(0, 0)", apart.check(0, 0), 2);
        BlindHunts shy = Given.believing(Given.settings(Given.row(2), 3, 2, 1), 3);
        Due.is("check(1, 1), its only goal is checked", shy.check(1, 1), IMPOSSIBLE);
        Due.is("check(1, 0)", shy.check(1, 0), 1);
    }

    @Of(promise = 7, says = {"kind 2: 1 if its place is another one than before the move, otherwise 0", "perhaps the same one twice, back to its place"})
    static void checkWithALeapBackToItsPlace() {
        BlindHunts x = Given.believing(Given.settings(Given.row(2), 2, 2, 1), 1);
        Due.is("check(0, 0)", x.check(0, 0), 1);
        Due.is("count(3)", x.count(3), 1);
    }

    @Of(promise = 7, says = {"Makes a round", "The belief behind a round with a signal is the set of all places to which a hare can have moved"})
    static void checkBehindEachChangeOfTheCountry() {
        BlindHunts x = Given.believing(Given.row(2), 1);
        x.check(0, 0);
        Due.is("count(3), it goes", x.count(3), 2);
        x.place(0);
        x.road(1, 2);
        x.check(0, 0);
        Due.is("count(3), a new road", x.count(3), 5);
        x.shut(0, 1, 1);
        x.check(0, 0);
        Due.is("count(3), a shut road", x.count(3), 3);
        x.shut(1, 0, 0);
        x.check(0, 0);
        Due.is("count(3), it is open again", x.count(3), 7);
        x.set(1, 3);
        Due.is("check(0, 2), other signals", x.check(0, 2), 1);
        Due.is("count(3), other signals", x.count(3), 2);
        x.set(0, 1);
        x.check(0, 2);
        Due.is("count(3), another kind", x.count(3), 2);
    }

    @Of(promise = 7, says = "(if the hare is caught for sure, any signal will do)")
    static void checkThatCatchesTakesAnySignal() {
        for (int signal = 0; signal <= 3; signal++) {
            BlindHunts x = Given.believing(Given.row(3), 4);
            Due.is("check(4, " + signal + ")", x.check(4, signal), 0);
            Due.is("count(5)", x.count(5), 1);
            Due.is("roundOf(0, 1)", x.roundOf(0, 1), signal);
        }
    }

    @Of(promise = 7, says = {"(if the hare is caught for sure, any signal will do)", "If all places of the belief are checked, the hare is caught for sure"})
    static void checkThatCatchesWithMorePlacesThanAreBelieved() {
        BlindHunts x = Given.believing(Given.settings(Given.row(3), 0, 0, 2), 2);
        Due.is("check(6, 2)", x.check(6, 2), 0);
        Due.is("count(5)", x.count(5), 1);
    }

    @Of(promise = 7, says = {"or this signal cannot be heard", "If all places of the belief are checked, the hare is caught for sure"})
    static void checkThatCatchesAllButOneTakesNoOtherSignal() {
        BlindHunts x = Given.believing(Given.settings(Given.row(3), 0, 0, 2), 7);
        Due.is("check(6, 1)", x.check(6, 1), IMPOSSIBLE);
        Due.is("check(6, 0)", x.check(6, 0), 1);
        Due.is("count(5)", x.count(5), 0);
    }

    @Of(promise = 7, says = {"Returns how many places the belief has then", "the belief is empty then"})
    static void checkThatLeavesNoPlace() {
        BlindHunts x = Given.believing(Given.row(1), 1);
        Due.is("check(1, 0)", x.check(1, 0), 0);
        Due.is("count(3)", x.count(3), 0);
    }

    @Of(promise = 7, says = "Returns how many places the belief has then")
    static void checkThatLeavesAllPlaces() {
        BlindHunts x = Given.believing(Given.complete(7), 127);
        Due.is("check(64, 0)", x.check(64, 0), 7);
        Due.is("count(3)", x.count(3), 127);
    }

    @Of(promise = 7, says = {"INVALID_ARGUMENT if an argument is out of range", "A call that returns an error changes nothing"})
    static void checkOutOfRangeChangesNothing() {
        Look.refused(Given::busy, "check(16, 0)", x -> x.check(16, 0), INVALID);
        Look.refused(Given::busy, "check(0, 4)", x -> x.check(0, 4), INVALID);
        Look.refused(Given::full, "check(0, -1)", x -> x.check(0, -1), INVALID);
        Look.refused(BlindHunts::new, "check(1, 0)", x -> x.check(1, 0), INVALID);
    }

    @Of(promise = 7, says = {"or there are more places than the budget tells", "A call that returns an error changes nothing"})
    static void checkOverTheBudgetChangesNothing() {
        Look.refused(Given::busy, "check(7, 0)", x -> x.check(7, 0), INVALID);
        Look.refused(Given::full, "check(3, 1)", x -> x.check(3, 1), INVALID);
    }

    @Of(promise = 7, says = {"NOT_POSSIBLE if the belief is empty", "A call that returns an error changes nothing"})
    static void checkWithoutABeliefChangesNothing() {
        Look.refused(Given::caught, "check(1, 0)", x -> x.check(1, 0), IMPOSSIBLE);
        Look.refused(() -> Given.row(3), "check(0, 0)", x -> x.check(0, 0), IMPOSSIBLE);
    }

    @Of(promise = 7, says = {"or this signal cannot be heard", "A call that returns an error changes nothing"})
    static void checkWithASignalThatCannotBeHeardChangesNothing() {
        Look.refused(Given::busy, "check(0, 3)", x -> x.check(0, 3), IMPOSSIBLE);
        Look.refused(Given::full, "check(0, 3)", x -> x.check(0, 3), IMPOSSIBLE);
    }

    // ---- promise 8

    @Of(promise = 8, says = {"`place`: number of the place", "INVALID_ARGUMENT if an argument is out of range"})
    static void placeOfAPlaceOneTooSmall() {
        for (int what = 0; what <= 4; what++) {
            Due.is("placeOf(-1, " + what + ")", Given.row(7).placeOf(-1, what), INVALID);
        }
    }

    @Of(promise = 8, says = {"`place`: number of the place", "INVALID_ARGUMENT if an argument is out of range"})
    static void placeOfAPlaceOneTooLarge() {
        for (int places = 0; places <= 7; places++) {
            BlindHunts x = Given.country("0000000".substring(0, places));
            for (int what = 0; what <= 4; what++) {
                Due.is("placeOf(" + places + ", " + what + ")", x.placeOf(places, what), INVALID);
            }
        }
    }

    @Of(promise = 8, says = {"`what`: 0: its color", "INVALID_ARGUMENT if an argument is out of range"})
    static void placeOfWhatOneTooSmall() {
        Due.is("placeOf(0, -1)", Given.row(3).placeOf(0, -1), INVALID);
    }

    @Of(promise = 8, says = {"4: 1 if it is in the belief, otherwise 0", "INVALID_ARGUMENT if an argument is out of range"})
    static void placeOfWhatOneTooLarge() {
        Due.is("placeOf(0, 5)", Given.row(3).placeOf(0, 5), INVALID);
    }

    @Of(promise = 8, says = "INVALID_ARGUMENT if an argument is out of range")
    static void placeOfFarOut() {
        BlindHunts x = Given.believing(Given.row(7), 127);
        for (int far : FAR) {
            Due.is("placeOf(" + far + ", 0)", x.placeOf(far, 0), INVALID);
            Due.is("placeOf(" + far + ", 4)", x.placeOf(far, 4), INVALID);
            Due.is("placeOf(0, " + far + ")", x.placeOf(0, far), INVALID);
        }
        Due.is("placeOf(32, 4)", x.placeOf(32, 4), INVALID);
    }

    @Of(promise = 8, says = {"Returns the number", "`what`: 0: its color", "each with a color, 0 to 3"})
    static void placeOfColorsAtBothEnds() {
        BlindHunts x = Given.country("3000003");
        Due.is("placeOf(0, 0)", x.placeOf(0, 0), 3);
        Due.is("placeOf(5, 0)", x.placeOf(5, 0), 0);
        Due.is("placeOf(6, 0)", x.placeOf(6, 0), 3);
    }

    @Of(promise = 8, says = "1: the places to which there are roads, as a set")
    static void placeOfRoadsFromNoneToAll() {
        Due.is("placeOf(0, 1), none", Given.row(1).placeOf(0, 1), 0);
        Due.is("placeOf(0, 1), all", Given.complete(7).placeOf(0, 1), 126);
        Due.is("placeOf(6, 1), all", Given.complete(7).placeOf(6, 1), 63);
    }

    @Of(promise = 8, says = "1: the places to which there are roads, as a set")
    static void placeOfRoadsTellsShutOnesToo() {
        BlindHunts x = Given.row(3);
        x.shut(0, 1, 1);
        Due.is("placeOf(1, 1)", x.placeOf(1, 1), 5);
        Due.is("placeOf(0, 1)", x.placeOf(0, 1), 2);
    }

    @Of(promise = 8, says = "2: those to which there are open ones")
    static void placeOfOpenRoadsFromAllToNone() {
        BlindHunts x = Given.complete(7);
        Due.is("placeOf(3, 2), all", x.placeOf(3, 2), 119);
        for (int other = 0; other <= 6; other++) {
            x.shut(3, other, 1);
        }
        Due.is("placeOf(3, 2), none", x.placeOf(3, 2), 0);
        Due.is("placeOf(0, 2)", x.placeOf(0, 2), 118);
        Due.is("placeOf(3, 1)", x.placeOf(3, 1), 119);
    }

    @Of(promise = 8, says = {"3: the places at which a hare from there can be behind its move, if nothing is checked", "if there is none at its place, it stays"})
    static void placeOfGoalsWithoutARoad() {
        BlindHunts shut = Given.row(2);
        shut.shut(0, 1, 1);
        for (int hare = 0; hare <= 3; hare++) {
            Due.is("kind " + hare, Given.settings(Given.country("00"), hare, 0, 1).placeOf(1, 3), 2);
            Due.is("kind " + hare + ", a shut road", Given.settings(shut, hare, 0, 1).placeOf(1, 3), 2);
        }
    }

    @Of(promise = 8, says = "3: the places at which a hare from there can be behind its move, if nothing is checked")
    static void placeOfGoalsWithAllRoads() {
        int[] want = {63, 127, 127, 127};
        for (int hare = 0; hare <= 3; hare++) {
            Due.is("kind " + hare, Given.settings(Given.complete(7), hare, 0, 1).placeOf(6, 3), want[hare]);
        }
    }

    @Of(promise = 8, says = {"3: the places at which a hare from there can be behind its move, if nothing is checked", "along one open road, or along two open roads one after the other"})
    static void placeOfGoalsOfALeapingOneAreTwoRoadsFarAtMost() {
        BlindHunts x = Given.settings(Given.row(7), 2, 0, 1);
        Due.is("placeOf(0, 3)", x.placeOf(0, 3), 7);
        Due.is("placeOf(3, 3)", x.placeOf(3, 3), 62);
        Due.is("placeOf(6, 3)", x.placeOf(6, 3), 112);
    }

    @Of(promise = 8, says = {"3: the places at which a hare from there can be behind its move, if nothing is checked", "perhaps the same one twice, back to its place; the place between does not matter"})
    static void placeOfGoalsOfALeapingOneWithOneRoad() {
        Due.is("placeOf(0, 3)", Given.settings(Given.row(2), 2, 0, 1).placeOf(0, 3), 3);
        BlindHunts x = Given.settings(Given.row(3), 2, 0, 1);
        x.shut(1, 2, 1);
        Due.is("placeOf(0, 3), the second road is shut", x.placeOf(0, 3), 3);
    }

    @Of(promise = 8, says = {"3: the places at which a hare from there can be behind its move, if nothing is checked", "but it does not go to a place that is checked in this round"})
    static void placeOfGoalsOfAShyOneBehindARound() {
        BlindHunts x = Given.believing(Given.settings(Given.row(3), 3, 0, 1), 7);
        x.check(1, 0);
        Due.is("placeOf(1, 3)", x.placeOf(1, 3), 7);
    }

    @Of(promise = 8, says = "4: 1 if it is in the belief, otherwise 0")
    static void placeOfTheFirstAndTheLastPlaceInTheBelief() {
        BlindHunts x = Given.believing(Given.row(7), 65);
        Due.is("placeOf(0, 4)", x.placeOf(0, 4), 1);
        Due.is("placeOf(1, 4)", x.placeOf(1, 4), 0);
        Due.is("placeOf(5, 4)", x.placeOf(5, 4), 0);
        Due.is("placeOf(6, 4)", x.placeOf(6, 4), 1);
    }

    @Of(promise = 8, says = "4: 1 if it is in the belief, otherwise 0")
    static void placeOfAnEmptyBeliefAndAFullOne() {
        BlindHunts x = Given.row(7);
        for (int place = 0; place <= 6; place++) {
            Due.is("placeOf(" + place + ", 4), empty", x.placeOf(place, 4), 0);
        }
        x.believe(127);
        for (int place = 0; place <= 6; place++) {
            Due.is("placeOf(" + place + ", 4), full", x.placeOf(place, 4), 1);
        }
    }

    @Of(promise = 8, says = {"Returns something of a place", "The changes are the calls of place, road, shut, set, believe, check and play that return no error"})
    static void placeOfChangesNothing() {
        for (int what = 0; what <= 5; what++) {
            int asked = what;
            Look.unchanged(Given::busy, "placeOf(0, " + what + ")", x -> x.placeOf(0, asked));
        }
    }

    // ---- promise 9

    /** A calm hare on three places, and rounds that check place 0, 1, 2, none, 0, 1, .. */
    private static BlindHunts rounds(int many) {
        BlindHunts x = Given.believing(Given.settings(Given.row(3), 1, 0, 1), 7);
        for (int i = 0; i < many; i++) {
            x.check(i % 4 == 3 ? 0 : 1 << i % 4, 0);
        }
        return x;
    }

    @Of(promise = 9, says = {"`round`: 0 to 7", "INVALID_ARGUMENT if an argument is out of range"})
    static void roundOfARoundOneTooSmall() {
        for (int what = 0; what <= 2; what++) {
            Due.is("roundOf(-1, " + what + ")", rounds(9).roundOf(-1, what), INVALID);
        }
    }

    @Of(promise = 9, says = {"`round`: 0 to 7", "INVALID_ARGUMENT if an argument is out of range"})
    static void roundOfARoundOneTooLarge() {
        for (int what = 0; what <= 2; what++) {
            Due.is("roundOf(8, " + what + ")", rounds(20).roundOf(8, what), INVALID);
        }
    }

    @Of(promise = 9, says = {"`what`: 0: the places that were checked", "INVALID_ARGUMENT if an argument is out of range"})
    static void roundOfWhatOneTooSmall() {
        Due.is("roundOf(0, -1)", rounds(1).roundOf(0, -1), INVALID);
    }

    @Of(promise = 9, says = {"2: the belief behind it", "INVALID_ARGUMENT if an argument is out of range"})
    static void roundOfWhatOneTooLarge() {
        Due.is("roundOf(0, 3)", rounds(1).roundOf(0, 3), INVALID);
    }

    @Of(promise = 9, says = "INVALID_ARGUMENT if an argument is out of range")
    static void roundOfFarOut() {
        for (int far : FAR) {
            Due.is("roundOf(" + far + ", 0)", rounds(9).roundOf(far, 0), INVALID);
            Due.is("roundOf(0, " + far + ")", rounds(9).roundOf(0, far), INVALID);
        }
    }

    @Of(promise = 9, says = "NOT_FOUND if there were not so many")
    static void roundOfNoRoundYet() {
        for (int round = 0; round <= 7; round++) {
            Due.is("roundOf(" + round + ", 0), new", new BlindHunts().roundOf(round, 0), MISSING);
            Due.is("roundOf(" + round + ", 2), believed alone", rounds(0).roundOf(round, 2), MISSING);
        }
    }

    @Of(promise = 9, says = "NOT_FOUND if there were not so many")
    static void roundOfOneRoundTooMany() {
        for (int many = 1; many <= 7; many++) {
            BlindHunts x = rounds(many);
            Due.is("roundOf, the first of " + many, x.roundOf(many - 1, 0), 1);
            for (int what = 0; what <= 2; what++) {
                Due.is("roundOf, ahead of the first of " + many, x.roundOf(many, what), MISSING);
            }
        }
    }

    @Of(promise = 9, says = "`round`: 0 to 7")
    static void roundOfTheFirstOfEight() {
        BlindHunts x = rounds(8);
        Due.is("roundOf(7, 0)", x.roundOf(7, 0), 1);
        Due.is("roundOf(0, 0)", x.roundOf(0, 0), 0);
    }

    @Of(promise = 9, says = {"`round`: 0 to 7", "0 for the latest one, and so on"})
    static void roundOfTheSecondOfNine() {
        BlindHunts x = rounds(9);
        Due.is("roundOf(7, 0)", x.roundOf(7, 0), 2);
        Due.is("roundOf(6, 0)", x.roundOf(6, 0), 4);
        Due.is("roundOf(1, 0)", x.roundOf(1, 0), 0);
        Due.is("roundOf(0, 0)", x.roundOf(0, 0), 1);
    }

    @Of(promise = 9, says = {"0 for the latest one, and so on", "each change records everything before it but the text"})
    static void roundOfTheFirstOfEightComesBackBehindUndo() {
        BlindHunts x = rounds(9);
        x.undo();
        Due.is("roundOf(7, 0)", x.roundOf(7, 0), 1);
        Due.is("roundOf(0, 0)", x.roundOf(0, 0), 0);
        x.undo();
        Due.is("roundOf(7, 0), two undone", x.roundOf(7, 0), MISSING);
        Due.is("roundOf(6, 0), two undone", x.roundOf(6, 0), 1);
    }

    @Of(promise = 9, says = {"NOT_FOUND if there were not so many", "INVALID_ARGUMENT is returned rather than NOT_POSSIBLE"})
    static void roundOfWhatOutOfRangeWithoutRounds() {
        Due.is("roundOf(0, 3)", new BlindHunts().roundOf(0, 3), INVALID);
        Due.is("roundOf(7, -1)", new BlindHunts().roundOf(7, -1), INVALID);
        Due.is("roundOf(8, 0)", new BlindHunts().roundOf(8, 0), INVALID);
        Due.is("roundOf(-1, 0)", new BlindHunts().roundOf(-1, 0), INVALID);
    }

    @Of(promise = 9, says = {"Returns something of a round that was made since believe()", "NOT_FOUND if there were not so many"})
    static void roundOfRoundsAheadOfBelieve() {
        BlindHunts x = rounds(8);
        x.believe(7);
        Due.is("roundOf(0, 0)", x.roundOf(0, 0), MISSING);
        x.check(4, 0);
        Due.is("roundOf(0, 0), one more", x.roundOf(0, 0), 4);
        Due.is("roundOf(1, 0), one more", x.roundOf(1, 0), MISSING);
    }

    @Of(promise = 9, says = {"Returns the number", "`what`: 0: the places that were checked"})
    static void roundOfNoPlaceAndOfTheHighestTwo() {
        BlindHunts x = Given.believing(Given.settings(Given.complete(7), 0, 0, 2), 127);
        x.check(0, 0);
        x.check(96, 0);
        Due.is("roundOf(1, 0)", x.roundOf(1, 0), 0);
        Due.is("roundOf(0, 0)", x.roundOf(0, 0), 96);
    }

    @Of(promise = 9, says = "1: the signal, as it was told")
    static void roundOfASignalThatWasNotHeard() {
        Due.is("roundOf(0, 1)", Given.caught().roundOf(0, 1), 3);
        Due.is("roundOf(1, 1)", Given.caught().roundOf(1, 1), 0);
    }

    @Of(promise = 9, says = "2: the belief behind it")
    static void roundOfAnEmptyBeliefAndAFullOne() {
        Due.is("roundOf(0, 2), empty", Given.caught().roundOf(0, 2), 0);
        BlindHunts x = Given.believing(Given.complete(7), 127);
        x.check(0, 0);
        Due.is("roundOf(0, 2), full", x.roundOf(0, 2), 127);
        Due.is("roundOf(1, 2), full", Given.caught().roundOf(1, 2), 2);
    }

    @Of(promise = 9, says = {"Returns something of a round that was made since believe()", "The changes are the calls of place, road, shut, set, believe, check and play that return no error"})
    static void roundOfChangesNothing() {
        Look.unchanged(Given::busy, "roundOf(0, 0)", x -> x.roundOf(0, 0));
        Look.unchanged(Given::busy, "roundOf(7, 0)", x -> x.roundOf(7, 0));
        Look.unchanged(Given::busy, "roundOf(8, 0)", x -> x.roundOf(8, 0));
    }
}

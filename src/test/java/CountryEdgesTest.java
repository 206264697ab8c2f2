import java.lang.reflect.InvocationTargetException;

/** Boundary cases of promises 1 to 5: a new object and the country, each a test of its own. */
final class CountryEdgesTest {
    private static final int INVALID = BlindHunts.INVALID_ARGUMENT;
    private static final int IMPOSSIBLE = BlindHunts.NOT_POSSIBLE;
    private static final int LIMIT = BlindHunts.LIMIT_REACHED;
    private static final int MISSING = BlindHunts.NOT_FOUND;
    /** Far outside of every range; a shift by one of them would wrap around. */
    private static final int[] FAR = {Integer.MIN_VALUE, Integer.MAX_VALUE, 32, 33, 64, 256, 65536, -32, -65536};

    private CountryEdgesTest() {
    }

    public static void main(String[] args) throws IllegalAccessException, InvocationTargetException {
        Edges.run(CountryEdgesTest.class);
    }

    // ---- promise 1

    @Of(promise = 1, says = "Creates a country without places")
    static void newCountryHasNoPlace() {
        BlindHunts x = new BlindHunts();
        Due.is("count(0)", x.count(0), 0);
        for (int what = 0; what <= 4; what++) {
            Due.is("placeOf(0, " + what + ")", x.placeOf(0, what), INVALID);
        }
        Due.is("beliefs(0)", x.beliefs(0), 0);
    }

    @Of(promise = 1, says = "Creates a country without places")
    static void newCountryHasNoRoad() {
        BlindHunts x = new BlindHunts();
        Due.is("count(1)", x.count(1), 0);
        Due.is("count(2)", x.count(2), 0);
    }

    @Of(promise = 1, says = "the belief is empty")
    static void newBeliefIsEmpty() {
        BlindHunts x = new BlindHunts();
        Due.is("count(3)", x.count(3), 0);
        Due.is("check(0, 0)", x.check(0, 0), IMPOSSIBLE);
    }

    @Of(promise = 1, says = "the belief is empty")
    static void newHareIsNotCaughtByARound() {
        BlindHunts x = new BlindHunts();
        Due.is("count(4)", x.count(4), 0);
        Due.is("count(5)", x.count(5), 0);
        Due.is("roundOf(0, 0)", x.roundOf(0, 0), MISSING);
    }

    @Of(promise = 1, says = {"Its kind is 0 at first", "by the kind of signals, which is 0 at first", "1 or 2; at first 1"})
    static void newSettings() {
        BlindHunts x = new BlindHunts();
        Due.is("count(20)", x.count(20), 0);
        Due.is("count(21)", x.count(21), 0);
        Due.is("count(22)", x.count(22), 1);
    }

    @Of(promise = 1, says = "There is a text of at most 60 characters, initially empty")
    static void newTextIsEmpty() {
        Due.is("count(7)", new BlindHunts().count(7), 0);
        Due.is("clearText()", new BlindHunts().clearText(), 0);
        Due.is("type(48)", new BlindHunts().type(48), 1);
    }

    @Of(promise = 1, says = "Creates a country without places")
    static void newHistoryIsEmpty() {
        Due.is("count(6)", new BlindHunts().count(6), 0);
        Due.is("undo()", new BlindHunts().undo(), IMPOSSIBLE);
    }

    @Of(promise = 1, says = "Creates a country without places")
    static void newObjectSharesNothingWithAnotherOne() {
        BlindHunts x = new BlindHunts();
        Given.full();
        BlindHunts y = new BlindHunts();
        for (int what = 0; what <= 7; what++) {
            Due.is("count(" + what + ") of an object made ahead of a full one", x.count(what), 0);
            Due.is("count(" + what + ") of an object made behind a full one", y.count(what), 0);
        }
    }

    // ---- promise 2

    @Of(promise = 2, says = {"`color`: 0 to 3", "INVALID_ARGUMENT if color is out of range"})
    static void placeColorOneTooSmall() {
        Due.is("place(-1)", new BlindHunts().place(-1), INVALID);
    }

    @Of(promise = 2, says = {"`color`: 0 to 3", "INVALID_ARGUMENT if color is out of range"})
    static void placeColorOneTooLarge() {
        Due.is("place(4)", new BlindHunts().place(4), INVALID);
    }

    @Of(promise = 2, says = "INVALID_ARGUMENT if color is out of range")
    static void placeColorFarOut() {
        for (int color : FAR) {
            Due.is("place(" + color + ")", new BlindHunts().place(color), INVALID);
        }
    }

    @Of(promise = 2, says = "`color`: 0 to 3")
    static void placeColorLowest() {
        BlindHunts x = Given.country("3");
        Due.is("place(0)", x.place(0), 1);
        Due.is("placeOf(1, 0)", x.placeOf(1, 0), 0);
    }

    @Of(promise = 2, says = "`color`: 0 to 3")
    static void placeColorHighest() {
        BlindHunts x = Given.country("0");
        Due.is("place(3)", x.place(3), 1);
        Due.is("placeOf(1, 0)", x.placeOf(1, 0), 3);
    }

    @Of(promise = 2, says = {"Returns its number", "There are at most 7 places, numbered from 0, each with a color, 0 to 3"})
    static void placeFirstIsNumber0() {
        Due.is("place(2)", new BlindHunts().place(2), 0);
    }

    @Of(promise = 2, says = {"Returns its number", "There are at most 7 places"})
    static void placeSeventhIsNumber6() {
        BlindHunts x = Given.row(6);
        Due.is("place(2)", x.place(2), 6);
        Due.is("count(0)", x.count(0), 7);
        Due.is("placeOf(6, 0)", x.placeOf(6, 0), 2);
        Due.is("believe(64)", x.believe(64), 1);
    }

    @Of(promise = 2, says = "LIMIT_REACHED if there are 7")
    static void placeEighth() {
        for (int color = 0; color <= 3; color++) {
            Due.is("place(" + color + ")", Given.row(7).place(color), LIMIT);
        }
    }

    @Of(promise = 2, says = "LIMIT_REACHED if there are 7")
    static void placeSeventhOnceMoreBehindUndo() {
        BlindHunts x = Given.country("0000000");
        Due.is("place(1), an eighth one", x.place(1), LIMIT);
        Due.is("undo()", x.undo(), 3);
        Due.is("place(1)", x.place(1), 6);
        Due.is("place(1), an eighth one", x.place(1), LIMIT);
    }

    @Of(promise = 2, says = {"INVALID_ARGUMENT if color is out of range", "and LIMIT_REACHED rather than NOT_FOUND", "NOT_POSSIBLE rather than LIMIT_REACHED"})
    static void placeEighthOfNoColor() {
        Due.is("place(-1)", Given.row(7).place(-1), INVALID);
        Due.is("place(4)", Given.row(7).place(4), INVALID);
    }

    @Of(promise = 2, says = "Adds a place, without roads")
    static void placeHasNoRoads() {
        BlindHunts x = Given.complete(6);
        x.place(0);
        Due.is("placeOf(6, 1)", x.placeOf(6, 1), 0);
        Due.is("placeOf(6, 2)", x.placeOf(6, 2), 0);
        Due.is("placeOf(6, 3)", x.placeOf(6, 3), 64);
        Due.is("placeOf(0, 1)", x.placeOf(0, 1), 62);
        Due.is("count(1)", x.count(1), 15);
    }

    @Of(promise = 2, says = "Adds a place, without roads")
    static void placeHasNoRoadsOfAnUndoneOne() {
        BlindHunts x = Given.country("00");
        x.road(0, 1);
        x.undo();
        x.undo();
        Due.is("place(0)", x.place(0), 1);
        Due.is("placeOf(1, 1)", x.placeOf(1, 1), 0);
        Due.is("placeOf(1, 2)", x.placeOf(1, 2), 0);
    }

    @Of(promise = 2, says = "the belief stays as it is")
    static void placeLeavesAFullBelief() {
        BlindHunts x = Given.believing(Given.row(6), 63);
        x.place(0);
        Due.is("count(3)", x.count(3), 63);
        Due.is("placeOf(6, 4)", x.placeOf(6, 4), 0);
    }

    @Of(promise = 2, says = "the belief stays as it is")
    static void placeLeavesAnEmptyBelief() {
        Due.is("count(3)", Given.country("0123012").count(3), 0);
    }

    @Of(promise = 2, says = "the belief stays as it is")
    static void placeLeavesAHareCaught() {
        BlindHunts x = Given.caught();
        x.place(0);
        Due.is("count(3)", x.count(3), 0);
        Due.is("count(4)", x.count(4), 2);
        Due.is("count(5)", x.count(5), 1);
    }

    @Of(promise = 2, says = {"INVALID_ARGUMENT if color is out of range", "A call that returns an error changes nothing"})
    static void placeOfNoColorChangesNothing() {
        Look.refused(Given::busy, "place(4)", x -> x.place(4), INVALID);
        Look.refused(BlindHunts::new, "place(-1)", x -> x.place(-1), INVALID);
    }

    @Of(promise = 2, says = {"LIMIT_REACHED if there are 7", "A call that returns an error changes nothing"})
    static void placeOverTheLimitChangesNothing() {
        Look.refused(Given::full, "place(0)", x -> x.place(0), LIMIT);
    }

    // ---- promise 3

    @Of(promise = 3, says = {"`one`: number of a place", "INVALID_ARGUMENT if there is no such place"})
    static void roadOneIsOneTooSmall() {
        Due.is("road(-1, 0)", Given.country("00").road(-1, 0), INVALID);
    }

    @Of(promise = 3, says = {"`one`: number of a place", "INVALID_ARGUMENT if there is no such place"})
    static void roadOneIsOneTooLarge() {
        Due.is("road(2, 0)", Given.country("00").road(2, 0), INVALID);
        Due.is("road(7, 0), seven places", Given.country("0000000").road(7, 0), INVALID);
    }

    @Of(promise = 3, says = {"`other`: number of another place", "INVALID_ARGUMENT if there is no such place"})
    static void roadOtherIsOneTooSmall() {
        Due.is("road(0, -1)", Given.country("00").road(0, -1), INVALID);
    }

    @Of(promise = 3, says = {"`other`: number of another place", "INVALID_ARGUMENT if there is no such place"})
    static void roadOtherIsOneTooLarge() {
        Due.is("road(0, 2)", Given.country("00").road(0, 2), INVALID);
        Due.is("road(0, 7), seven places", Given.country("0000000").road(0, 7), INVALID);
    }

    @Of(promise = 3, says = "INVALID_ARGUMENT if there is no such place")
    static void roadFarOut() {
        for (int far : FAR) {
            Due.is("road(" + far + ", 1)", Given.country("000").road(far, 1), INVALID);
            Due.is("road(1, " + far + ")", Given.country("000").road(1, far), INVALID);
        }
    }

    @Of(promise = 3, says = {"INVALID_ARGUMENT if there is no such place", "If there is no place with a certain number, this is INVALID_ARGUMENT"})
    static void roadWithoutPlaces() {
        Due.is("road(0, 1)", new BlindHunts().road(0, 1), INVALID);
        Due.is("road(0, 1), one place", Given.country("0").road(0, 1), INVALID);
    }

    @Of(promise = 3, says = "or both are the same")
    static void roadOfAPlaceWithItself() {
        BlindHunts x = Given.country("0000000");
        for (int place = 0; place <= 6; place++) {
            Due.is("road(" + place + ", same)", x.road(place, place), INVALID);
        }
    }

    @Of(promise = 3, says = "NOT_POSSIBLE if there is a road between them")
    static void roadAgain() {
        Due.is("road(0, 1)", Given.country("00", 0, 1).road(0, 1), IMPOSSIBLE);
    }

    @Of(promise = 3, says = {"NOT_POSSIBLE if there is a road between them", "Roads can be gone in both directions"})
    static void roadAgainInTheOtherDirection() {
        Due.is("road(1, 0)", Given.country("00", 0, 1).road(1, 0), IMPOSSIBLE);
        Due.is("road(0, 1)", Given.country("00", 1, 0).road(0, 1), IMPOSSIBLE);
    }

    @Of(promise = 3, says = {"NOT_POSSIBLE if there is a road between them", "a road is open or shut"})
    static void roadWhereAShutOneIs() {
        BlindHunts x = Given.country("00", 0, 1);
        x.shut(0, 1, 1);
        Due.is("road(0, 1)", x.road(0, 1), IMPOSSIBLE);
        Due.is("road(1, 0)", x.road(1, 0), IMPOSSIBLE);
    }

    @Of(promise = 3, says = "Returns how many roads there are then")
    static void roadFirst() {
        Due.is("road(1, 0)", Given.country("00").road(1, 0), 1);
        Due.is("road(6, 0), lowest and highest place", Given.country("0000000").road(6, 0), 1);
    }

    @Of(promise = 3, says = "Returns how many roads there are then")
    static void roadLastOfAll() {
        BlindHunts x = Given.complete(7);
        x.undo();
        Due.is("road(5, 6)", x.road(5, 6), 21);
        Due.is("count(1)", x.count(1), 21);
        Due.is("road(5, 6) again", x.road(5, 6), IMPOSSIBLE);
    }

    @Of(promise = 3, says = "Returns how many roads there are then")
    static void roadCountsShutOnesToo() {
        BlindHunts x = Given.country("000", 0, 1);
        x.shut(0, 1, 1);
        Due.is("road(1, 2)", x.road(1, 2), 2);
        Due.is("count(2)", x.count(2), 1);
    }

    @Of(promise = 3, says = {"Makes an open road between two places", "Roads can be gone in both directions"})
    static void roadIsOpen() {
        BlindHunts x = Given.country("0000000", 6, 0);
        Due.is("placeOf(0, 1)", x.placeOf(0, 1), 64);
        Due.is("placeOf(6, 1)", x.placeOf(6, 1), 1);
        Due.is("placeOf(0, 2)", x.placeOf(0, 2), 64);
        Due.is("placeOf(6, 2)", x.placeOf(6, 2), 1);
        Due.is("count(2)", x.count(2), 1);
    }

    @Of(promise = 3, says = {"INVALID_ARGUMENT if there is no such place", "A call that returns an error changes nothing"})
    static void roadWithoutSuchAPlaceChangesNothing() {
        Look.refused(Given::busy, "road(0, 4)", x -> x.road(0, 4), INVALID);
        Look.refused(Given::busy, "road(-1, 0)", x -> x.road(-1, 0), INVALID);
        Look.refused(BlindHunts::new, "road(0, 1)", x -> x.road(0, 1), INVALID);
    }

    @Of(promise = 3, says = {"or both are the same", "A call that returns an error changes nothing"})
    static void roadOfAPlaceWithItselfChangesNothing() {
        Look.refused(Given::busy, "road(3, 3)", x -> x.road(3, 3), INVALID);
    }

    @Of(promise = 3, says = {"NOT_POSSIBLE if there is a road between them", "A call that returns an error changes nothing"})
    static void roadAgainChangesNothing() {
        Look.refused(Given::busy, "road(1, 0)", x -> x.road(1, 0), IMPOSSIBLE);
        Look.refused(Given::busy, "road(2, 3), a shut one", x -> x.road(2, 3), IMPOSSIBLE);
    }

    // ---- promise 4

    @Of(promise = 4, says = {"`is`: 1: it is shut", "INVALID_ARGUMENT if an argument is out of range"})
    static void shutIsOneTooLarge() {
        Due.is("shut(0, 1, 2)", Given.row(2).shut(0, 1, 2), INVALID);
    }

    @Of(promise = 4, says = {"0: it is open", "INVALID_ARGUMENT if an argument is out of range"})
    static void shutIsOneTooSmall() {
        BlindHunts x = Given.row(2);
        x.shut(0, 1, 1);
        Due.is("shut(0, 1, -1)", x.shut(0, 1, -1), INVALID);
    }

    @Of(promise = 4, says = {"`one`: number of a place", "INVALID_ARGUMENT if an argument is out of range"})
    static void shutOneIsOneTooSmall() {
        Due.is("shut(-1, 0, 1)", Given.row(2).shut(-1, 0, 1), INVALID);
    }

    @Of(promise = 4, says = {"`one`: number of a place", "INVALID_ARGUMENT if an argument is out of range"})
    static void shutOneIsOneTooLarge() {
        Due.is("shut(2, 0, 1)", Given.row(2).shut(2, 0, 1), INVALID);
        Due.is("shut(7, 0, 1), seven places", Given.row(7).shut(7, 0, 1), INVALID);
    }

    @Of(promise = 4, says = {"`other`: number of another place", "INVALID_ARGUMENT if an argument is out of range"})
    static void shutOtherIsOneTooSmall() {
        Due.is("shut(0, -1, 1)", Given.row(2).shut(0, -1, 1), INVALID);
    }

    @Of(promise = 4, says = {"`other`: number of another place", "INVALID_ARGUMENT if an argument is out of range"})
    static void shutOtherIsOneTooLarge() {
        Due.is("shut(0, 2, 1)", Given.row(2).shut(0, 2, 1), INVALID);
        Due.is("shut(0, 7, 1), seven places", Given.row(7).shut(0, 7, 1), INVALID);
    }

    @Of(promise = 4, says = "INVALID_ARGUMENT if an argument is out of range")
    static void shutFarOut() {
        for (int far : FAR) {
            Due.is("shut(" + far + ", 1, 1)", Given.complete(3).shut(far, 1, 1), INVALID);
            Due.is("shut(1, " + far + ", 1)", Given.complete(3).shut(1, far, 1), INVALID);
            Due.is("shut(0, 1, " + far + ")", Given.complete(3).shut(0, 1, far), INVALID);
        }
    }

    @Of(promise = 4, says = "INVALID_ARGUMENT if an argument is out of range")
    static void shutWithoutPlaces() {
        Due.is("shut(0, 1, 1)", new BlindHunts().shut(0, 1, 1), INVALID);
        Due.is("shut(0, 1, 0), one place", Given.row(1).shut(0, 1, 0), INVALID);
    }

    @Of(promise = 4, says = "or both places are the same")
    static void shutOfAPlaceWithItself() {
        for (int place = 0; place <= 6; place++) {
            Due.is("shut(" + place + ", same, 0)", Given.row(7).shut(place, place, 0), INVALID);
            Due.is("shut(" + place + ", same, 1)", Given.row(7).shut(place, place, 1), INVALID);
        }
    }

    @Of(promise = 4, says = "NOT_POSSIBLE if there is no road between them")
    static void shutWhereNoRoadIs() {
        Due.is("shut(0, 2, 1)", Given.row(3).shut(0, 2, 1), IMPOSSIBLE);
        Due.is("shut(2, 0, 1)", Given.row(3).shut(2, 0, 1), IMPOSSIBLE);
    }

    @Of(promise = 4, says = "NOT_POSSIBLE if there is no road between them")
    static void openWhereNoRoadIs() {
        Due.is("shut(0, 2, 0)", Given.row(3).shut(0, 2, 0), IMPOSSIBLE);
    }

    @Of(promise = 4, says = "or it is so already")
    static void openARoadThatWasNeverShut() {
        Due.is("shut(0, 1, 0)", Given.row(3).shut(0, 1, 0), IMPOSSIBLE);
        Due.is("shut(1, 0, 0)", Given.row(3).shut(1, 0, 0), IMPOSSIBLE);
    }

    @Of(promise = 4, says = "or it is so already")
    static void shutAShutRoad() {
        BlindHunts x = Given.row(3);
        x.shut(0, 1, 1);
        Due.is("shut(0, 1, 1)", x.shut(0, 1, 1), IMPOSSIBLE);
        Due.is("shut(1, 0, 1)", x.shut(1, 0, 1), IMPOSSIBLE);
    }

    @Of(promise = 4, says = "or it is so already")
    static void openARoadThatIsOpenAgain() {
        BlindHunts x = Given.row(3);
        x.shut(0, 1, 1);
        Due.is("shut(0, 1, 0)", x.shut(0, 1, 0), 2);
        Due.is("shut(0, 1, 0) again", x.shut(0, 1, 0), IMPOSSIBLE);
    }

    @Of(promise = 4, says = {"INVALID_ARGUMENT if an argument is out of range", "INVALID_ARGUMENT is returned rather than NOT_POSSIBLE"})
    static void shutIsOutOfRangeWhereNoRoadIs() {
        Due.is("shut(0, 2, 2)", Given.row(3).shut(0, 2, 2), INVALID);
        Due.is("shut(0, 2, -1)", Given.row(3).shut(0, 2, -1), INVALID);
    }

    @Of(promise = 4, says = "Returns how many roads are open then")
    static void shutTheLastOpenRoad() {
        BlindHunts x = Given.country("00", 1, 0);
        Due.is("shut(0, 1, 1)", x.shut(0, 1, 1), 0);
        Due.is("count(1)", x.count(1), 1);
    }

    @Of(promise = 4, says = {"Returns how many roads are open then", "Shuts a road, or opens it"})
    static void openTheLastShutRoadOfAll() {
        BlindHunts x = Given.complete(7);
        Due.is("shut(6, 0, 1)", x.shut(6, 0, 1), 20);
        Due.is("placeOf(0, 2)", x.placeOf(0, 2), 62);
        Due.is("placeOf(6, 2)", x.placeOf(6, 2), 62);
        Due.is("placeOf(6, 1)", x.placeOf(6, 1), 63);
        Due.is("shut(0, 6, 0)", x.shut(0, 6, 0), 21);
        Due.is("placeOf(0, 2), open", x.placeOf(0, 2), 126);
    }

    @Of(promise = 4, says = {"INVALID_ARGUMENT if an argument is out of range", "A call that returns an error changes nothing"})
    static void shutOutOfRangeChangesNothing() {
        Look.refused(Given::busy, "shut(0, 1, 2)", x -> x.shut(0, 1, 2), INVALID);
        Look.refused(Given::busy, "shut(3, 4, 1)", x -> x.shut(3, 4, 1), INVALID);
        Look.refused(Given::busy, "shut(1, 1, 1)", x -> x.shut(1, 1, 1), INVALID);
        Look.refused(BlindHunts::new, "shut(0, 1, 1)", x -> x.shut(0, 1, 1), INVALID);
    }

    @Of(promise = 4, says = {"NOT_POSSIBLE if there is no road between them", "A call that returns an error changes nothing"})
    static void shutWhereNoRoadIsChangesNothing() {
        Look.refused(Given::busy, "shut(0, 3, 1)", x -> x.shut(0, 3, 1), IMPOSSIBLE);
        Look.refused(Given::busy, "shut(0, 3, 0)", x -> x.shut(0, 3, 0), IMPOSSIBLE);
    }

    @Of(promise = 4, says = {"or it is so already", "A call that returns an error changes nothing"})
    static void shutWhatIsSoAlreadyChangesNothing() {
        Look.refused(Given::busy, "shut(2, 3, 1)", x -> x.shut(2, 3, 1), IMPOSSIBLE);
        Look.refused(Given::busy, "shut(0, 1, 0)", x -> x.shut(0, 1, 0), IMPOSSIBLE);
    }

    // ---- promise 5

    @Of(promise = 5, says = {"`what`: 0: the kind of the hare", "INVALID_ARGUMENT if an argument is out of range"})
    static void setWhatOneTooSmall() {
        for (int value = 0; value <= 3; value++) {
            Due.is("set(-1, " + value + ")", new BlindHunts().set(-1, value), INVALID);
        }
    }

    @Of(promise = 5, says = {"2: the budget", "INVALID_ARGUMENT if an argument is out of range"})
    static void setWhatOneTooLarge() {
        for (int value = 0; value <= 3; value++) {
            Due.is("set(3, " + value + ")", new BlindHunts().set(3, value), INVALID);
        }
    }

    @Of(promise = 5, says = "INVALID_ARGUMENT if an argument is out of range")
    static void setFarOut() {
        for (int far : FAR) {
            Due.is("set(" + far + ", 1)", new BlindHunts().set(far, 1), INVALID);
            for (int what = 0; what <= 2; what++) {
                Due.is("set(" + what + ", " + far + ")", new BlindHunts().set(what, far), INVALID);
            }
        }
    }

    @Of(promise = 5, says = {"`value`: 0 to 3 for 0 and 1", "INVALID_ARGUMENT if an argument is out of range"})
    static void setHareOneTooSmall() {
        Due.is("set(0, -1)", new BlindHunts().set(0, -1), INVALID);
    }

    @Of(promise = 5, says = {"`value`: 0 to 3 for 0 and 1", "INVALID_ARGUMENT if an argument is out of range"})
    static void setHareOneTooLarge() {
        Due.is("set(0, 4)", new BlindHunts().set(0, 4), INVALID);
    }

    @Of(promise = 5, says = {"`value`: 0 to 3 for 0 and 1", "INVALID_ARGUMENT if an argument is out of range"})
    static void setSignalsOneTooSmall() {
        Due.is("set(1, -1)", new BlindHunts().set(1, -1), INVALID);
    }

    @Of(promise = 5, says = {"`value`: 0 to 3 for 0 and 1", "INVALID_ARGUMENT if an argument is out of range"})
    static void setSignalsOneTooLarge() {
        Due.is("set(1, 4)", new BlindHunts().set(1, 4), INVALID);
    }

    @Of(promise = 5, says = {"1 or 2 for 2", "INVALID_ARGUMENT if an argument is out of range"})
    static void setBudgetOneTooSmall() {
        Due.is("set(2, 0)", new BlindHunts().set(2, 0), INVALID);
    }

    @Of(promise = 5, says = {"1 or 2 for 2", "INVALID_ARGUMENT if an argument is out of range"})
    static void setBudgetOneTooLarge() {
        Due.is("set(2, 3)", new BlindHunts().set(2, 3), INVALID);
    }

    @Of(promise = 5, says = {"`value`: 0 to 3 for 0 and 1", "`what`: 0: the kind of the hare"})
    static void setHareAtBothEnds() {
        BlindHunts x = new BlindHunts();
        Due.is("set(0, 3)", x.set(0, 3), 0);
        Due.is("count(20)", x.count(20), 3);
        Due.is("set(0, 0)", x.set(0, 0), 3);
        Due.is("count(20)", x.count(20), 0);
        Due.is("count(21)", x.count(21), 0);
        Due.is("count(22)", x.count(22), 1);
    }

    @Of(promise = 5, says = {"`value`: 0 to 3 for 0 and 1", "1: the kind of signals"})
    static void setSignalsAtBothEnds() {
        BlindHunts x = new BlindHunts();
        Due.is("set(1, 3)", x.set(1, 3), 0);
        Due.is("count(21)", x.count(21), 3);
        Due.is("set(1, 0)", x.set(1, 0), 3);
        Due.is("count(21)", x.count(21), 0);
        Due.is("count(20)", x.count(20), 0);
        Due.is("count(22)", x.count(22), 1);
    }

    @Of(promise = 5, says = {"1 or 2 for 2", "2: the budget"})
    static void setBudgetAtBothEnds() {
        BlindHunts x = new BlindHunts();
        Due.is("set(2, 2)", x.set(2, 2), 1);
        Due.is("count(22)", x.count(22), 2);
        Due.is("set(2, 1)", x.set(2, 1), 2);
        Due.is("count(22)", x.count(22), 1);
        Due.is("count(20)", x.count(20), 0);
        Due.is("count(21)", x.count(21), 0);
    }

    @Of(promise = 5, says = "Returns what it was")
    static void setReturnsWhatItWasAtFirst() {
        Due.is("set(0, 2)", new BlindHunts().set(0, 2), 0);
        Due.is("set(1, 2)", new BlindHunts().set(1, 2), 0);
        Due.is("set(2, 2)", new BlindHunts().set(2, 2), 1);
    }

    @Of(promise = 5, says = {"Sets a setting", "Returns what it was", "The changes are the calls of place, road, shut, set, believe, check and play that return no error"})
    static void setAsItIsAlreadyIsAChangeToo() {
        BlindHunts x = new BlindHunts();
        Due.is("set(2, 1)", x.set(2, 1), 1);
        Due.is("count(6)", x.count(6), 1);
    }

    @Of(promise = 5, says = {"INVALID_ARGUMENT if an argument is out of range", "A call that returns an error changes nothing"})
    static void setOutOfRangeChangesNothing() {
        Look.refused(Given::busy, "set(-1, 1)", x -> x.set(-1, 1), INVALID);
        Look.refused(Given::busy, "set(3, 1)", x -> x.set(3, 1), INVALID);
        Look.refused(Given::busy, "set(0, 4)", x -> x.set(0, 4), INVALID);
        Look.refused(Given::busy, "set(1, -1)", x -> x.set(1, -1), INVALID);
        Look.refused(Given::busy, "set(2, 3)", x -> x.set(2, 3), INVALID);
        Look.refused(BlindHunts::new, "set(2, 0)", x -> x.set(2, 0), INVALID);
    }
}

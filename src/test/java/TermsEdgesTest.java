import java.lang.reflect.InvocationTargetException;

/** What the terms say of places, the hare, signals, rounds and errors, each a test of its own. */
final class TermsEdgesTest {
    private static final int RESTLESS = 0;
    private static final int CALM = 1;
    private static final int LEAPING = 2;
    private static final int SHY = 3;

    private TermsEdgesTest() {
    }

    public static void main(String[] args) throws IllegalAccessException, InvocationTargetException {
        Edges.run(TermsEdgesTest.class);
    }

    /** A row of three places whose second road is shut. */
    private static BlindHunts halfShut(int hare) {
        BlindHunts x = Given.settings(Given.row(3), hare, 0, 1);
        x.shut(1, 2, 1);
        return x;
    }

    // ---- places and roads

    @Of(promise = 0, says = "Sets of places are told as bits: bit k is for place k")
    static void setsOfPlacesAsArguments() {
        for (int place = 0; place <= 6; place++) {
            BlindHunts x = Given.row(7);
            int set = 1 << place;
            Due.is("believe(" + set + ")", x.believe(set), 1);
            for (int other = 0; other <= 6; other++) {
                Due.is("placeOf(" + other + ", 4)", x.placeOf(other, 4), other == place ? 1 : 0);
            }
            Due.is("check(" + set + ", 0)", x.check(set, 0), 0);
            Due.is("count(5)", x.count(5), 1);
        }
    }

    @Of(promise = 0, says = "Sets of places are told as bits: bit k is for place k")
    static void setsOfPlacesAsAnswers() {
        BlindHunts x = Given.settings(Given.complete(7), RESTLESS, 0, 1);
        for (int place = 0; place <= 6; place++) {
            int set = 1 << place;
            Due.is("placeOf(" + place + ", 1)", x.placeOf(place, 1), 127 - set);
            Due.is("placeOf(" + place + ", 2)", x.placeOf(place, 2), 127 - set);
            Due.is("behind(" + set + ", 0, 0)", x.behind(set, 0, 0), 127 - set);
            Due.is("sure(" + set + ", 1)", x.sure(set, 1), set);
            Due.is("dangers(" + set + ")", x.dangers(set), 127 - set);
        }
    }

    @Of(promise = 0, says = "Between two places there is a road or none")
    static void aRoadIsOfItsTwoPlacesAlone() {
        for (int one = 0; one <= 6; one++) {
            for (int other = one + 1; other <= 6; other++) {
                BlindHunts x = Given.country("0000000", one, other);
                for (int place = 0; place <= 6; place++) {
                    int want = place == one ? 1 << other : place == other ? 1 << one : 0;
                    Due.is("road(" + one + ", " + other + "), placeOf(" + place + ", 1)", x.placeOf(place, 1), want);
                }
            }
        }
    }

    // ---- the hare

    @Of(promise = 0, says = "The hare is at one of the places, and moves in each round")
    static void theHareMovesInEachRound() {
        BlindHunts x = Given.believing(Given.row(3), 1);
        x.check(0, 0);
        Due.is("count(3) behind one round", x.count(3), 2);
        x.check(0, 0);
        Due.is("count(3) behind two rounds", x.count(3), 5);
        x.check(0, 0);
        Due.is("count(3) behind three rounds", x.count(3), 2);
    }

    @Of(promise = 0, says = "kind 0, restless: it goes along an open road")
    static void aRestlessHareGoes() {
        BlindHunts x = halfShut(RESTLESS);
        Due.is("placeOf(0, 3)", x.placeOf(0, 3), 2);
        Due.is("placeOf(1, 3), the other road is shut", x.placeOf(1, 3), 1);
        x.shut(1, 2, 0);
        Due.is("placeOf(1, 3), both roads are open", x.placeOf(1, 3), 5);
    }

    @Of(promise = 0, says = {"kind 0, restless", "if there is none at its place, it stays"})
    static void aRestlessHareStaysWhereNoRoadIsOpen() {
        BlindHunts x = halfShut(RESTLESS);
        Due.is("placeOf(2, 3)", x.placeOf(2, 3), 4);
        Due.is("behind(4, 0, -1)", x.behind(4, 0, -1), 4);
        Due.is("behind(4, 3, -1)", x.behind(4, 3, -1), 4);
    }

    @Of(promise = 0, says = "kind 1, calm: it stays, or goes along an open road")
    static void aCalmHareStaysOrGoes() {
        BlindHunts x = halfShut(CALM);
        Due.is("placeOf(0, 3)", x.placeOf(0, 3), 3);
        Due.is("placeOf(1, 3), the other road is shut", x.placeOf(1, 3), 3);
        Due.is("placeOf(2, 3), its road is shut", x.placeOf(2, 3), 4);
        Due.is("behind(1, 2, -1), into a place that is checked", x.behind(1, 2, -1), 3);
    }

    @Of(promise = 0, says = "kind 2, leaping: it goes along one open road, or along two open roads one after the other")
    static void aLeapingHareGoesAlongOneRoadOrTwo() {
        BlindHunts x = Given.settings(Given.row(5), LEAPING, 0, 1);
        Due.is("placeOf(0, 3)", x.placeOf(0, 3), 7);
        Due.is("placeOf(2, 3)", x.placeOf(2, 3), 31);
        x.shut(2, 3, 1);
        Due.is("placeOf(1, 3), the road behind next is shut", x.placeOf(1, 3), 7);
        Due.is("placeOf(3, 3), the next road is shut", x.placeOf(3, 3), 24);
    }

    @Of(promise = 0, says = "perhaps the same one twice, back to its place")
    static void aLeapingHareComesBack() {
        BlindHunts x = halfShut(LEAPING);
        Due.is("placeOf(0, 3)", x.placeOf(0, 3), 3);
        Due.is("placeOf(1, 3)", x.placeOf(1, 3), 3);
        Due.is("placeOf(2, 3), where no road is open", x.placeOf(2, 3), 4);
    }

    @Of(promise = 0, says = "the place between does not matter")
    static void aLeapingHareLeapsOverACheckedPlace() {
        BlindHunts x = Given.settings(Given.row(3), LEAPING, 0, 2);
        Due.is("behind(1, 2, -1)", x.behind(1, 2, -1), 7);
        Due.is("behind(1, 6, -1)", x.behind(1, 6, -1), 7);
        x.believe(1);
        Due.is("check(6, 0)", x.check(6, 0), 3);
        Due.is("count(5)", x.count(5), 0);
    }

    @Of(promise = 0, says = "the place between does not matter")
    static void aLeapingHareIsHeardOnlyBehindBothRoads() {
        BlindHunts x = Given.settings(Given.country("012", 0, 1, 1, 2), LEAPING, 1, 1);
        Due.is("behind(1, 0, 2), over a place of color 1", x.behind(1, 0, 2), 4);
        Due.is("behind(1, 0, 1), to that place alone", x.behind(1, 0, 1), 2);
        x.set(1, 2);
        Due.is("behind(1, 0, 0), back to its place", x.behind(1, 0, 0), 1);
        Due.is("behind(1, 0, 1)", x.behind(1, 0, 1), 6);
    }

    @Of(promise = 0, says = "kind 3, shy: as a calm one, but it does not go to a place that is checked in this round")
    static void aShyHareDoesNotGoToACheckedPlace() {
        BlindHunts x = Given.settings(Given.row(3), SHY, 0, 2);
        Due.is("placeOf(1, 3), nothing is checked", x.placeOf(1, 3), 7);
        Due.is("behind(2, 1, -1)", x.behind(2, 1, -1), 6);
        Due.is("behind(2, 5, -1)", x.behind(2, 5, -1), 2);
        x.believe(2);
        Due.is("check(4, 0)", x.check(4, 0), 2);
        Due.is("count(3)", x.count(3), 3);
        Due.is("check(0, 0), the next round checks other places", x.check(0, 0), 3);
    }

    // ---- signals

    @Of(promise = 0, says = "by the kind of signals, which is 0 at first: kind 0: always 0")
    static void signalsOfKind0() {
        BlindHunts x = Given.ring();
        Due.is("behind(15, 0, 0)", x.behind(15, 0, 0), 15);
        for (int signal = 1; signal <= 3; signal++) {
            Due.is("behind(15, 0, " + signal + ")", x.behind(15, 0, signal), 0);
        }
    }

    @Of(promise = 0, says = {"Behind its move the hunter hears a signal, 0 to 3", "kind 1: the color of its place"})
    static void signalsOfKind1AreOfThePlaceBehindTheMove() {
        BlindHunts x = Given.settings(Given.ring(), RESTLESS, 1, 1);
        Due.is("behind(1, 0, 0), the color before the move", x.behind(1, 0, 0), 0);
        Due.is("behind(1, 0, 1)", x.behind(1, 0, 1), 2);
        Due.is("behind(1, 0, 3)", x.behind(1, 0, 3), 8);
        x.set(0, CALM);
        Due.is("behind(1, 0, 0), it stays", x.behind(1, 0, 0), 1);
        BlindHunts alike = Given.settings(Given.country("0220", 0, 1, 0, 2, 0, 3), RESTLESS, 1, 1);
        Due.is("behind(1, 0, 2), two places of a color", alike.behind(1, 0, 2), 6);
    }

    @Of(promise = 0, says = "kind 2: 1 if its place is another one than before the move, otherwise 0")
    static void signalsOfKind2() {
        BlindHunts x = Given.settings(Given.row(3), CALM, 2, 1);
        Due.is("behind(1, 0, 0)", x.behind(1, 0, 0), 1);
        Due.is("behind(1, 0, 1)", x.behind(1, 0, 1), 2);
        Due.is("behind(3, 0, 0)", x.behind(3, 0, 0), 3);
        Due.is("behind(3, 0, 1)", x.behind(3, 0, 1), 7);
        Due.is("behind(7, 0, 2)", x.behind(7, 0, 2), 0);
    }

    @Of(promise = 0, says = "kind 3: how many open roads there are at its place, but 3 if there are more")
    static void signalsOfKind3() {
        // Places 0 to 3 have one to four open roads at them, place 6 a shut one alone.
        BlindHunts x = Given.settings(Given.country("0000000", 0, 3, 1, 3, 2, 3, 1, 2, 2, 4, 3, 5, 5, 6), CALM, 3, 1);
        x.shut(5, 6, 1);
        Due.is("behind(64, 0, 0), no open road", x.behind(64, 0, 0), 64);
        Due.is("behind(1, 0, 1), one", x.behind(1, 0, 1), 1);
        Due.is("behind(2, 0, 2), two", x.behind(2, 0, 2), 2);
        Due.is("behind(2, 0, 3), three and four", x.behind(2, 0, 3), 12);
        Due.is("behind(8, 0, 3), four", x.behind(8, 0, 3), 12);
    }

    // ---- rounds and beliefs

    @Of(promise = 0, says = "The belief is the set of places at which the hare can be")
    static void theBeliefIsWhereTheHareCanBe() {
        BlindHunts x = Given.believing(Given.country("0000", 0, 1, 0, 2, 0, 3), 6);
        Due.is("count(3)", x.count(3), 6);
        Due.is("check(2, 0)", x.check(2, 0), 1);
        Due.is("count(3), it came from place 2", x.count(3), 1);
        Due.is("check(0, 0)", x.check(0, 0), 3);
        Due.is("count(3), it left place 0", x.count(3), 14);
    }

    @Of(promise = 0, says = "In a round the hunter checks some places, at most as many as the budget tells (1 or 2; at first 1), perhaps none")
    static void aRoundChecksAsManyPlacesAsTheBudgetTells() {
        BlindHunts x = Given.believing(Given.row(7), 127);
        Due.is("check(3, 0), two places", x.check(3, 0), BlindHunts.INVALID_ARGUMENT);
        Due.is("check(0, 0), none", x.check(0, 0), 7);
        Due.is("check(2, 0), one", x.check(2, 0), 6);
        x.set(2, 2);
        x.believe(127);
        Due.is("check(7, 0), three places", x.check(7, 0), BlindHunts.INVALID_ARGUMENT);
        Due.is("check(66, 0), two", x.check(66, 0), 6);
        Due.is("count(3)", x.count(3), 126);
        Due.is("check(0, 0), none", x.check(0, 0), 7);
    }

    @Of(promise = 0, says = "If the hare is at one of them, it is caught")
    static void aHareAtACheckedPlaceMovesNoMore() {
        BlindHunts x = Given.row(3);
        Due.is("behind(7, 2, -1)", x.behind(7, 2, -1), 2);
        Due.is("behind(7, 5, -1)", x.behind(7, 5, -1), 5);
        Due.is("behind(7, 7, -1)", x.behind(7, 7, -1), 0);
    }

    @Of(promise = 0, says = {"If the hare is at one of them, it is caught", "otherwise it moves, and the hunter hears the signal"})
    static void aHareThatIsNotCaughtMovesIntoACheckedPlace() {
        BlindHunts x = Given.row(3);
        Due.is("behind(3, 1, -1)", x.behind(3, 1, -1), 5);
        Due.is("behind(1, 2, -1)", x.behind(1, 2, -1), 2);
    }

    @Of(promise = 0, says = {"otherwise it moves, and the hunter hears the signal",
        "The belief behind a round with a signal is the set of all places to which a hare can have moved, that was at a place of the belief that was not checked, and of which this signal is heard"})
    static void theSignalTellsBeliefsApart() {
        BlindHunts x = Given.believing(Given.settings(Given.ring(), RESTLESS, 1, 1), 15);
        Due.is("check(1, 2)", x.check(1, 2), 1);
        Due.is("count(3)", x.count(3), 4);
        Due.is("roundOf(0, 1)", x.roundOf(0, 1), 2);
        Due.is("check(0, 2), the place that it left", x.check(0, 2), BlindHunts.NOT_POSSIBLE);
        Due.is("check(0, 3)", x.check(0, 3), 1);
    }

    // ---- errors

    @Of(promise = 0, says = "`INVALID_ARGUMENT = -1000001`: An argument is out of its range, or there is no such place")
    static void invalidArgument() {
        Due.is("INVALID_ARGUMENT", BlindHunts.INVALID_ARGUMENT, -1000001);
        Due.is("place(4)", new BlindHunts().place(4), -1000001);
        Due.is("placeOf(0, 0)", new BlindHunts().placeOf(0, 0), -1000001);
        Due.is("ways(41, 0)", Given.row(3).ways(41, 0), -1000001);
    }

    @Of(promise = 0, says = "`NOT_POSSIBLE = -1000002`: The call is not possible in the present state")
    static void notPossible() {
        Due.is("NOT_POSSIBLE", BlindHunts.NOT_POSSIBLE, -1000002);
        Due.is("undo()", new BlindHunts().undo(), -1000002);
    }

    @Of(promise = 0, says = "`LIMIT_REACHED = -1000003`: A fixed limit has been reached")
    static void limitReached() {
        Due.is("LIMIT_REACHED", BlindHunts.LIMIT_REACHED, -1000003);
        Due.is("place(0)", Given.row(7).place(0), -1000003);
        BlindHunts x = Given.believing(Given.settings(Given.complete(7), CALM, 0, 1), 127);
        Due.is("ways(40, 0)", x.ways(40, 0), -1000003);
    }

    @Of(promise = 0, says = "`NOT_FOUND = -1000004`: There is no such value")
    static void notFound() {
        Due.is("NOT_FOUND", BlindHunts.NOT_FOUND, -1000004);
        Due.is("fault(0)", new BlindHunts().fault(0), -1000004);
        Due.is("beliefs(3)", new BlindHunts().beliefs(3), -1000004);
    }
}

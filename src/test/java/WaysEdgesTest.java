import java.lang.reflect.InvocationTargetException;
import java.util.ArrayList;
import java.util.Arrays;
import java.util.List;
import java.util.function.Supplier;
import java.util.function.ToLongFunction;

/** Boundary cases of promises 16 to 19: ways, numbers and the history, each a test of its own. */
final class WaysEdgesTest {
    private static final int INVALID = BlindHunts.INVALID_ARGUMENT;
    private static final int IMPOSSIBLE = BlindHunts.NOT_POSSIBLE;
    private static final int LIMIT = BlindHunts.LIMIT_REACHED;
    private static final int MISSING = BlindHunts.NOT_FOUND;
    /** Far outside of every range; a shift or a mask would make some of them small again. */
    private static final int[] FAR = {Integer.MIN_VALUE, Integer.MAX_VALUE, 1 << 30, 128, 256, 65536, -2, -8, -128, -65536};

    /** The places at which a hare of each kind can be behind a move from each place of walkers(), as sets. */
    private static final int[][] REACHED = {{6, 5, 11, 4, 16}, {7, 7, 15, 12, 16}, {15, 15, 15, 15, 16}, {7, 7, 15, 12, 16}};

    private WaysEdgesTest() {
    }

    public static void main(String[] args) throws IllegalAccessException, InvocationTargetException {
        Edges.run(WaysEdgesTest.class);
    }

    // ---- promise 16

    @Of(promise = 16, says = {"`moves`: 0 to 40", "INVALID_ARGUMENT if an argument is out of range"})
    static void waysMovesOneTooSmall() {
        Due.is("ways(-1, 0)", Given.believing(Given.row(3), 7).ways(-1, 0), INVALID);
    }

    @Of(promise = 16, says = {"`moves`: 0 to 40", "INVALID_ARGUMENT if an argument is out of range"})
    static void waysMovesOneTooLarge() {
        Due.is("ways(41, 0)", Given.believing(Given.row(3), 7).ways(41, 0), INVALID);
    }

    @Of(promise = 16, says = {"Returns how many", "`moves`: 0 to 40"})
    static void waysWithoutMoves() {
        BlindHunts x = Given.believing(Given.row(7), 65);
        Due.is("ways(0, 0)", x.ways(0, 0), 1);
        Due.is("ways(0, 1)", x.ways(0, 1), 0);
        Due.is("ways(0, 6)", x.ways(0, 6), 1);
    }

    @Of(promise = 16, says = "`moves`: 0 to 40")
    static void waysOfTheMostMoves() {
        BlindHunts x = Given.believing(Given.row(3), 1);
        Due.is("ways(40, 0)", x.ways(40, 0), 1L << 19);
        Due.is("ways(40, 1)", x.ways(40, 1), 0);
        Due.is("ways(39, 1)", x.ways(39, 1), 1L << 19);
    }

    @Of(promise = 16, says = {"`place`: number of the place", "INVALID_ARGUMENT if an argument is out of range"})
    static void waysToAPlaceOneTooSmall() {
        Due.is("ways(0, -1)", Given.believing(Given.row(7), 127).ways(0, -1), INVALID);
        Due.is("ways(40, -1)", Given.believing(Given.row(7), 127).ways(40, -1), INVALID);
    }

    @Of(promise = 16, says = {"`place`: number of the place", "INVALID_ARGUMENT if an argument is out of range"})
    static void waysToAPlaceOneTooLarge() {
        for (int places = 0; places <= 7; places++) {
            Due.is("ways(1, " + places + ")", Given.country("0000000".substring(0, places)).ways(1, places), INVALID);
        }
    }

    @Of(promise = 16, says = "INVALID_ARGUMENT if an argument is out of range")
    static void waysFarOut() {
        for (int far : FAR) {
            Due.is("ways(" + far + ", 0)", Given.row(3).ways(far, 0), INVALID);
            Due.is("ways(1, " + far + ")", Given.row(3).ways(1, far), INVALID);
        }
    }

    @Of(promise = 16, says = {"INVALID_ARGUMENT if an argument is out of range", "INVALID_ARGUMENT is returned rather than NOT_POSSIBLE, NOT_POSSIBLE rather than LIMIT_REACHED"})
    static void waysOutOfRangeThatWouldBeTooMany() {
        BlindHunts x = Given.believing(Given.complete(7), 127);
        Due.is("ways(41, 0)", x.ways(41, 0), INVALID);
        Due.is("ways(40, 7)", x.ways(40, 7), INVALID);
    }

    @Of(promise = 16, says = "from one of the belief on")
    static void waysOfAnEmptyBelief() {
        BlindHunts x = Given.settings(Given.complete(7), 1, 0, 1);
        Due.is("ways(0, 0)", x.ways(0, 0), 0);
        Due.is("ways(40, 6)", x.ways(40, 6), 0);
    }

    @Of(promise = 16, says = "LIMIT_REACHED if they are more than 9223372036854775807")
    static void waysOneMoreThanTheLimit() {
        // In a star of four a leaping hare reaches each of the four: 2 * 4 to the 31 ways, 9223372036854775808.
        BlindHunts x = Given.believing(Given.settings(Given.country("0000000", 0, 1, 0, 5, 0, 6), 2, 0, 1), 3);
        Due.is("ways(32, 0)", x.ways(32, 0), LIMIT);
        x.believe(1);
        Due.is("ways(32, 0), half of them", x.ways(32, 0), 1L << 62);
    }

    @Of(promise = 16, says = "LIMIT_REACHED if they are more than 9223372036854775807")
    static void waysAtTheLimit() {
        // Of all countries, kinds, beliefs, moves and places this comes nearest to the limit from below; none meets it.
        BlindHunts x = Given.country("0000000", 0, 2, 1, 2, 1, 4, 2, 3, 2, 5, 3, 4, 3, 5, 4, 5, 4, 6);
        Given.believing(Given.settings(x, 1, 0, 1), 75);
        Due.is("ways(32, 2)", x.ways(32, 2), 9223372036854743040L);
        Due.is("ways(33, 2)", x.ways(33, 2), LIMIT);
    }

    @Of(promise = 16, says = "LIMIT_REACHED if they are more than 9223372036854775807")
    static void waysFarOverTheLimit() {
        // A number that only wraps around would be small again, or below 0, for some of these moves.
        BlindHunts x = Given.believing(Given.settings(Given.complete(7), 1, 0, 1), 127);
        Due.is("ways(22, 0)", x.ways(22, 0), 3909821048582988049L);
        for (int moves = 23; moves <= 40; moves++) {
            Due.is("ways(" + moves + ", 0)", x.ways(moves, 0), LIMIT);
        }
        BlindHunts four = Given.believing(Given.settings(Given.complete(4), 1, 0, 1), 1);
        for (int moves = 33; moves <= 40; moves++) {
            Due.is("ways(" + moves + ", 0), a power of two", four.ways(moves, 0), LIMIT);
        }
    }

    @Of(promise = 16, says = {"LIMIT_REACHED if they are more than 9223372036854775807", "that end at a place"})
    static void waysThatEndWhereTheyAreFew() {
        BlindHunts x = Given.settings(Given.country("0000000", 0, 1, 0, 2, 0, 3, 0, 4, 1, 2, 1, 3, 1, 4, 2, 3, 2, 4, 3, 4), 1, 0, 1);
        x.believe(127);
        Due.is("ways(40, 0)", x.ways(40, 0), LIMIT);
        Due.is("ways(40, 5), a place apart", x.ways(40, 5), 1);
        Due.is("ways(40, 6), a place apart", x.ways(40, 6), 1);
        x.believe(31);
        Due.is("ways(40, 5), none goes there", x.ways(40, 5), 0);
    }

    @Of(promise = 16, says = {"LIMIT_REACHED if they are more than 9223372036854775807", "that end at a place"})
    static void waysThatEndOnTheOtherSide() {
        // A restless hare is on the other side behind each move: there are too many here, and none there.
        BlindHunts x = Given.country("0000000", 0, 3, 0, 4, 0, 5, 0, 6, 1, 3, 1, 4, 1, 5, 1, 6, 2, 3, 2, 4, 2, 5, 2, 6);
        x.believe(1);
        Due.is("ways(40, 0)", x.ways(40, 0), LIMIT);
        Due.is("ways(40, 3)", x.ways(40, 3), 0);
        Due.is("ways(39, 0)", x.ways(39, 0), 0);
        Due.is("ways(39, 3)", x.ways(39, 3), LIMIT);
        Due.is("ways(35, 3)", x.ways(35, 3), 2218611106740436992L);
        Due.is("ways(36, 0)", x.ways(36, 0), 8874444426961747968L);
    }

    @Of(promise = 16, says = "with nothing checked")
    static void waysOfAShyOneBehindARound() {
        BlindHunts x = Given.believing(Given.settings(Given.row(2), 3, 0, 1), 3);
        x.check(1, 0);
        Due.is("ways(0, 0)", x.ways(0, 0), 0);
        Due.is("ways(1, 0)", x.ways(1, 0), 1);
    }

    @Of(promise = 16, says = "Counts the ways of a hare: rows of places, from one of the belief on, of which each next one is one at which it can be behind a move from the one before, with nothing checked, that end at a place")
    static void waysAreRowsOfPlaces() {
        for (int hare = 0; hare <= 3; hare++) {
            BlindHunts x = walkers(hare);
            for (int moves = 0; moves <= 4; moves++) {
                for (int place = 0; place <= 4; place++) {
                    Due.is("kind " + hare + ", ways(" + moves + ", " + place + ")", x.ways(moves, place), rowsThatEndAt(hare, moves, place));
                }
            }
        }
    }

    /** Five places, one with a shut road alone, and 0, 3 and 4 of them believed in. */
    private static BlindHunts walkers(int hare) {
        BlindHunts x = Given.country("01230", 0, 1, 1, 2, 2, 0, 2, 3, 3, 4);
        x.shut(3, 4, 1);
        return Given.believing(Given.settings(x, hare, 1, 2), 25);
    }

    private static long rowsThatEndAt(int hare, int moves, int place) {
        long found = 0;
        for (int[] row : rows(hare, moves)) {
            found += row[moves] == place ? 1 : 0;
        }
        return found;
    }

    /** All rows of places, of so many moves, that a hare can go, each from one of the belief on. */
    private static List<int[]> rows(int hare, int moves) {
        List<int[]> rows = new ArrayList<>(List.of(new int[] {0}, new int[] {3}, new int[] {4}));
        for (int i = 0; i < moves; i++) {
            List<int[]> longer = new ArrayList<>();
            for (int[] row : rows) {
                for (int next = 0; next <= 4; next++) {
                    if (((REACHED[hare][row[i]] >> next) & 1) == 1) {
                        int[] more = Arrays.copyOf(row, i + 2);
                        more[i + 1] = next;
                        longer.add(more);
                    }
                }
            }
            rows = longer;
        }
        return rows;
    }

    @Of(promise = 16, says = {"Counts the ways of a hare", "The changes are the calls of place, road, shut, set, believe, check and play that return no error"})
    static void waysChangesNothing() {
        Look.unchanged(Given::busy, "ways(40, 0)", x -> x.ways(40, 0));
        Look.unchanged(Given::busy, "ways(41, 0)", x -> x.ways(41, 0));
        Look.unchanged(() -> Given.believing(Given.complete(7), 127), "ways(40, 0)", x -> x.ways(40, 0));
    }

    // ---- promise 17

    @Of(promise = 17, says = {"`moves`: 0 to 15", "INVALID_ARGUMENT if an argument is out of range"})
    static void metMovesOneTooSmall() {
        Due.is("met(-1, 0, 0)", Given.believing(Given.row(3), 7).met(-1, 0, 0), INVALID);
        Due.is("met(-1, 0, 1)", Given.believing(Given.row(3), 7).met(-1, 0, 1), INVALID);
    }

    @Of(promise = 17, says = {"`moves`: 0 to 15", "INVALID_ARGUMENT if an argument is out of range"})
    static void metMovesOneTooLarge() {
        Due.is("met(16, 0, 0)", Given.believing(Given.row(3), 7).met(16, 0, 0), INVALID);
        Due.is("met(16, 0, 1)", Given.believing(Given.row(3), 7).met(16, 0, 1), INVALID);
    }

    @Of(promise = 17, says = {"Returns the number", "`moves`: 0 to 15", "the hare would have met a place at the beginning"})
    static void metWithoutMoves() {
        BlindHunts x = Given.believing(Given.row(7), 65);
        Due.is("met(0, 0, 0)", x.met(0, 0, 0), 1);
        Due.is("met(0, 1, 0)", x.met(0, 1, 0), 0);
        Due.is("met(0, 6, 0)", x.met(0, 6, 0), 1);
        Due.is("met(0, 1, 1)", x.met(0, 1, 1), 2);
    }

    @Of(promise = 17, says = {"`moves`: 0 to 15", "1: of how many in all"})
    static void metOfTheMostMovesAndTheMostWays() {
        BlindHunts x = Given.believing(Given.settings(Given.complete(7), 1, 0, 1), 127);
        Due.is("met(15, 6, 1)", x.met(15, 6, 1), 33232930569601L);
        Due.is("met(15, 6, 0)", x.met(15, 6, 0), 33232930569601L - 2821109907456L);
    }

    @Of(promise = 17, says = {"`place`: number of the place", "INVALID_ARGUMENT if an argument is out of range"})
    static void metAPlaceOneTooSmall() {
        Due.is("met(1, -1, 0)", Given.believing(Given.row(7), 127).met(1, -1, 0), INVALID);
        Due.is("met(1, -1, 1)", Given.believing(Given.row(7), 127).met(1, -1, 1), INVALID);
    }

    @Of(promise = 17, says = {"`place`: number of the place", "INVALID_ARGUMENT if an argument is out of range"})
    static void metAPlaceOneTooLarge() {
        for (int places = 0; places <= 7; places++) {
            BlindHunts x = Given.country("0000000".substring(0, places));
            Due.is("met(1, " + places + ", 0)", x.met(1, places, 0), INVALID);
            Due.is("met(1, " + places + ", 1)", x.met(1, places, 1), INVALID);
        }
    }

    @Of(promise = 17, says = {"`part`: 0: how many ways", "INVALID_ARGUMENT if an argument is out of range"})
    static void metPartOneTooSmall() {
        Due.is("met(1, 0, -1)", Given.believing(Given.row(3), 7).met(1, 0, -1), INVALID);
    }

    @Of(promise = 17, says = {"1: of how many in all", "INVALID_ARGUMENT if an argument is out of range"})
    static void metPartOneTooLarge() {
        Due.is("met(1, 0, 2)", Given.believing(Given.row(3), 7).met(1, 0, 2), INVALID);
    }

    @Of(promise = 17, says = "INVALID_ARGUMENT if an argument is out of range")
    static void metFarOut() {
        for (int far : FAR) {
            Due.is("met(" + far + ", 0, 0)", Given.row(3).met(far, 0, 0), INVALID);
            Due.is("met(1, " + far + ", 0)", Given.row(3).met(1, far, 0), INVALID);
            Due.is("met(1, 0, " + far + ")", Given.row(3).met(1, 0, far), INVALID);
        }
    }

    @Of(promise = 17, says = "Tells by how many of the ways of some moves")
    static void metOfAnEmptyBelief() {
        BlindHunts x = Given.complete(7);
        Due.is("met(15, 0, 0)", x.met(15, 0, 0), 0);
        Due.is("met(15, 0, 1)", x.met(15, 0, 1), 0);
        Due.is("met(0, 0, 1)", x.met(0, 0, 1), 0);
    }

    @Of(promise = 17, says = "the hare would have met a place at the beginning")
    static void metAtTheBeginningAlone() {
        // From 0 it goes to 1, and the place that it left counts too.
        Due.is("met(1, 0, 0)", Given.believing(Given.row(2), 1).met(1, 0, 0), 1);
    }

    @Of(promise = 17, says = "or behind one of the moves")
    static void metBehindTheLastMoveAlone() {
        BlindHunts x = Given.believing(Given.row(7), 1);
        Due.is("met(5, 6, 0)", x.met(5, 6, 0), 0);
        Due.is("met(6, 6, 0)", x.met(6, 6, 0), 1);
    }

    @Of(promise = 17, says = "`part`: 0: how many ways")
    static void metMoreThanOnceIsOneWay() {
        BlindHunts x = Given.believing(Given.row(2), 3);
        Due.is("met(15, 0, 0)", x.met(15, 0, 0), 2);
        Due.is("met(15, 0, 1)", x.met(15, 0, 1), 2);
    }

    @Of(promise = 17, says = "`part`: 0: how many ways")
    static void metNeverApart() {
        BlindHunts x = Given.believing(Given.country("000", 0, 1), 3);
        Due.is("met(15, 2, 0)", x.met(15, 2, 0), 0);
        Due.is("met(15, 2, 1)", x.met(15, 2, 1), 2);
    }

    @Of(promise = 17, says = {"Tells by how many of the ways of some moves, with nothing checked, the hare would have met a place at the beginning or behind one of the moves",
        "`part`: 0: how many ways", "1: of how many in all"})
    static void metAlongTheRowsOfPlaces() {
        for (int hare = 0; hare <= 3; hare++) {
            BlindHunts x = walkers(hare);
            for (int moves = 0; moves <= 4; moves++) {
                List<int[]> rows = rows(hare, moves);
                for (int place = 0; place <= 4; place++) {
                    long met = 0;
                    for (int[] row : rows) {
                        int sought = place;
                        met += Arrays.stream(row).anyMatch(at -> at == sought) ? 1 : 0;
                    }
                    Due.is("kind " + hare + ", met(" + moves + ", " + place + ", 0)", x.met(moves, place, 0), met);
                    Due.is("kind " + hare + ", met(" + moves + ", " + place + ", 1)", x.met(moves, place, 1), rows.size());
                }
            }
        }
    }

    @Of(promise = 17, says = "with nothing checked")
    static void metByAShyOneBehindARound() {
        BlindHunts x = Given.believing(Given.settings(Given.row(2), 3, 0, 1), 3);
        x.check(1, 0);
        Due.is("met(1, 0, 0)", x.met(1, 0, 0), 1);
        Due.is("met(1, 0, 1)", x.met(1, 0, 1), 2);
    }

    @Of(promise = 17, says = {"Tells by how many of the ways of some moves", "The changes are the calls of place, road, shut, set, believe, check and play that return no error"})
    static void metChangesNothing() {
        Look.unchanged(Given::busy, "met(15, 0, 0)", x -> x.met(15, 0, 0));
        Look.unchanged(Given::busy, "met(15, 0, 1)", x -> x.met(15, 0, 1));
        Look.unchanged(Given::busy, "met(16, 0, 0)", x -> x.met(16, 0, 0));
    }

    // ---- promise 18

    @Of(promise = 18, says = {"`what`: 0: places", "INVALID_ARGUMENT if what is out of range"})
    static void countWhatOneTooSmall() {
        Due.is("count(-1)", Given.busy().count(-1), INVALID);
    }

    @Of(promise = 18, says = {"7: the length of the text", "INVALID_ARGUMENT if what is out of range"})
    static void countWhatOneTooLarge() {
        Due.is("count(8)", Given.busy().count(8), INVALID);
    }

    @Of(promise = 18, says = {"20 to 22: the settings 0 to 2", "INVALID_ARGUMENT if what is out of range"})
    static void countWhatOneBelowTheSettings() {
        Due.is("count(19)", Given.busy().count(19), INVALID);
    }

    @Of(promise = 18, says = {"20 to 22: the settings 0 to 2", "INVALID_ARGUMENT if what is out of range"})
    static void countWhatOneAboveTheSettings() {
        Due.is("count(23)", Given.busy().count(23), INVALID);
    }

    @Of(promise = 18, says = "INVALID_ARGUMENT if what is out of range")
    static void countFarOut() {
        for (int what = 9; what <= 18; what++) {
            Due.is("count(" + what + ")", Given.busy().count(what), INVALID);
        }
        for (int far : FAR) {
            Due.is("count(" + far + ")", Given.busy().count(far), INVALID);
            Due.is("count(" + (far + 20) + ")", Given.busy().count(far + 20), INVALID);
        }
    }

    @Of(promise = 18, says = {"Returns the number", "`what`: 0: places"})
    static void countPlacesFromNoneToAll() {
        for (int places = 0; places <= 7; places++) {
            Due.is("count(0)", Given.country("0000000".substring(0, places)).count(0), places);
        }
    }

    @Of(promise = 18, says = {"1: roads", "2: open roads"})
    static void countRoadsFromNoneToAll() {
        Due.is("count(1), none", Given.country("0000000").count(1), 0);
        Due.is("count(2), none", Given.country("0000000").count(2), 0);
        Due.is("count(1), all", Given.complete(7).count(1), 21);
        Due.is("count(2), all", Given.complete(7).count(2), 21);
    }

    @Of(promise = 18, says = {"1: roads", "2: open roads"})
    static void countRoadsThatAreAllShut() {
        BlindHunts x = Given.row(3);
        x.shut(0, 1, 1);
        x.shut(1, 2, 1);
        Due.is("count(1)", x.count(1), 2);
        Due.is("count(2)", x.count(2), 0);
    }

    @Of(promise = 18, says = "3: the belief")
    static void countBeliefFromEmptyToFull() {
        BlindHunts x = Given.row(7);
        Due.is("count(3), empty", x.count(3), 0);
        x.believe(127);
        Due.is("count(3), full", x.count(3), 127);
    }

    @Of(promise = 18, says = "4: rounds since believe()")
    static void countMoreRoundsThanAreTold() {
        BlindHunts x = Given.believing(Given.settings(Given.row(3), 1, 0, 1), 7);
        Due.is("count(4), none yet", x.count(4), 0);
        for (int rounds = 1; rounds <= 30; rounds++) {
            x.check(0, 0);
            Due.is("count(4)", x.count(4), rounds);
        }
        x.believe(7);
        Due.is("count(4), believed anew", x.count(4), 0);
    }

    @Of(promise = 18, says = "5: 1 if the hare was caught for sure by one of these rounds, otherwise 0")
    static void countCaughtByTheLatestRound() {
        Due.is("count(5)", Given.caught().count(5), 1);
        BlindHunts x = Given.caught();
        x.undo();
        Due.is("count(5), that round is undone", x.count(5), 0);
    }

    @Of(promise = 18, says = "5: 1 if the hare was caught for sure by one of these rounds, otherwise 0")
    static void countCaughtWithoutRounds() {
        Due.is("count(5), nothing believed", Given.row(3).count(5), 0);
        Due.is("count(5), an empty belief", Given.believing(Given.row(3), 0).count(5), 0);
        Due.is("count(5), a full belief", Given.believing(Given.row(3), 7).count(5), 0);
    }

    @Of(promise = 18, says = {"5: 1 if the hare was caught for sure by one of these rounds, otherwise 0", "3: the belief"})
    static void countCaughtStaysBehindOtherChanges() {
        BlindHunts x = Given.caught();
        x.place(0);
        x.road(2, 3);
        x.shut(2, 3, 1);
        x.set(1, 3);
        x.play();
        Due.is("count(5)", x.count(5), 1);
        Due.is("count(3)", x.count(3), 0);
        Due.is("count(4)", x.count(4), 2);
    }

    @Of(promise = 18, says = "6: states in the history")
    static void countStatesFromNoneToFour() {
        BlindHunts x = new BlindHunts();
        for (int changes = 0; changes <= 7; changes++) {
            Due.is("count(6) behind " + changes, x.count(6), Math.min(changes, 4));
            x.place(0);
        }
        Due.is("count(6), an eighth place", x.count(6), 4);
    }

    @Of(promise = 18, says = "7: the length of the text")
    static void countTextFromEmptyToFull() {
        BlindHunts x = new BlindHunts();
        for (int length = 0; length <= 60; length++) {
            Due.is("count(7)", x.count(7), length);
            x.type(' ');
        }
        Due.is("count(7), one character too many", x.count(7), 60);
    }

    @Of(promise = 18, says = "20 to 22: the settings 0 to 2")
    static void countSettingsAtBothEnds() {
        BlindHunts low = Given.settings(new BlindHunts(), 0, 0, 1);
        BlindHunts high = Given.settings(new BlindHunts(), 3, 3, 2);
        int[] most = {3, 3, 2};
        int[] least = {0, 0, 1};
        for (int what = 0; what <= 2; what++) {
            Due.is("count(" + (20 + what) + "), low", low.count(20 + what), least[what]);
            Due.is("count(" + (20 + what) + "), high", high.count(20 + what), most[what]);
        }
    }

    @Of(promise = 18, says = {"Returns a number", "The changes are the calls of place, road, shut, set, believe, check and play that return no error"})
    static void countChangesNothing() {
        Look.unchanged(Given::busy, "count(6)", x -> x.count(6));
        Look.unchanged(Given::busy, "count(8)", x -> x.count(8));
    }

    // ---- promise 19

    @Of(promise = 19, says = "NOT_POSSIBLE if it is empty")
    static void undoWithoutChanges() {
        Due.is("undo()", new BlindHunts().undo(), IMPOSSIBLE);
    }

    @Of(promise = 19, says = "NOT_POSSIBLE if it is empty")
    static void undoWhenAllIsUndone() {
        BlindHunts x = Given.country("0");
        Due.is("undo()", x.undo(), 0);
        Due.is("undo() again", x.undo(), IMPOSSIBLE);
    }

    @Of(promise = 19, says = {"NOT_POSSIBLE if it is empty", "A call that returns an error changes nothing"})
    static void undoWithoutChangesChangesNothing() {
        Look.refused(BlindHunts::new, "undo()", x -> x.undo(), IMPOSSIBLE);
        Look.refused(WaysEdgesTest::undone, "undo()", x -> x.undo(), IMPOSSIBLE);
    }

    private static BlindHunts undone() {
        BlindHunts x = Given.busy();
        for (int i = 0; i < 4; i++) {
            x.undo();
        }
        return x;
    }

    @Of(promise = 19, says = {"Returns the number of states that are left in the history", "A history of at most 4 states is kept"})
    static void undoFourStates() {
        BlindHunts x = Given.country("0123");
        for (int left = 3; left >= 0; left--) {
            Due.is("undo()", x.undo(), left);
            Due.is("count(0)", x.count(0), left);
            Due.is("count(6)", x.count(6), left);
        }
        Due.is("undo() once more", x.undo(), IMPOSSIBLE);
    }

    @Of(promise = 19, says = "if there are 5 states then, the oldest one is dropped")
    static void undoOfFiveChangesEndsBehindTheFirst() {
        BlindHunts x = Given.country("32101");
        for (int left = 3; left >= 0; left--) {
            Due.is("undo()", x.undo(), left);
            Due.is("count(0)", x.count(0), left + 1);
        }
        Due.is("undo(), the state before the first was dropped", x.undo(), IMPOSSIBLE);
        Due.is("placeOf(0, 0)", x.placeOf(0, 0), 3);
    }

    @Of(promise = 19, says = "if there are 5 states then, the oldest one is dropped")
    static void undoOfManyChangesDropsEachOldestState() {
        BlindHunts x = Given.row(7);
        for (int belief = 1; belief <= 100; belief++) {
            x.believe(belief);
        }
        for (int left = 3; left >= 0; left--) {
            Due.is("undo()", x.undo(), left);
            Due.is("count(3)", x.count(3), 96 + left);
        }
        Due.is("undo() once more", x.undo(), IMPOSSIBLE);
    }

    @Of(promise = 19, says = {"which is removed from it", "A history of at most 4 states is kept"})
    static void undoMakesRoomForAChange() {
        BlindHunts x = Given.believing(Given.country("012"), 7);
        x.undo();
        x.undo();
        Due.is("count(6)", x.count(6), 2);
        x.believe(1);
        x.believe(2);
        Due.is("count(6), full", x.count(6), 4);
        Due.is("undo()", x.undo(), 3);
        Due.is("count(3)", x.count(3), 1);
        Due.is("undo()", x.undo(), 2);
        Due.is("count(0)", x.count(0), 2);
        Due.is("undo()", x.undo(), 1);
        Due.is("undo()", x.undo(), 0);
        Due.is("count(0), none is left", x.count(0), 0);
        Due.is("undo() once more", x.undo(), IMPOSSIBLE);
    }

    @Of(promise = 19, says = {"Restores the latest state of the history", "The changes are the calls of place, road, shut, set, believe, check and play that return no error"})
    static void undoOfEachKindOfChange() {
        undoOf("place", WaysEdgesTest::three, x -> x.place(1));
        undoOf("road", WaysEdgesTest::three, x -> x.road(0, 1));
        undoOf("shut", () -> Given.country("01", 0, 1), x -> x.shut(0, 1, 1));
        undoOf("set", WaysEdgesTest::three, x -> x.set(0, 3));
        undoOf("believe", WaysEdgesTest::three, x -> x.believe(2));
        undoOf("check", WaysEdgesTest::three, x -> x.check(1, 0));
        undoOf("play", WaysEdgesTest::three, x -> x.play());
    }

    /** Three states are in the history, so that there is room for one more. */
    private static BlindHunts three() {
        return Given.write(Given.believing(Given.country("01"), 3), "1:0;");
    }

    private static void undoOf(String name, Supplier<BlindHunts> given, ToLongFunction<BlindHunts> change) {
        BlindHunts x = given.get();
        change.applyAsLong(x);
        Due.is("count(6) behind " + name, x.count(6), 4);
        Due.is("undo() of " + name, x.undo(), 3);
        Look.same("undo() of " + name, x, given.get());
    }

    @Of(promise = 19, says = {"Restores the latest state of the history", "each change records everything before it but the text"})
    static void undoLeavesTheText() {
        BlindHunts x = Given.write(Given.country("0"), "0:");
        x.place(1);
        x.type('0');
        Due.is("undo()", x.undo(), 1);
        Due.is("count(7)", x.count(7), 3);
        x.clearText();
        Due.is("undo()", x.undo(), 0);
        Due.is("count(7), cleared", x.count(7), 0);
    }

    @Of(promise = 19, says = {"Restores the latest state of the history", "The changes are the calls of place, road, shut, set, believe, check and play that return no error"})
    static void undoOfAnErrorUndoesTheChangeAheadOfIt() {
        BlindHunts x = Given.believing(Given.country("01"), 1);
        x.believe(4);
        x.check(3, 0);
        x.road(0, 0);
        Due.is("undo()", x.undo(), 2);
        Due.is("count(3)", x.count(3), 0);
        Due.is("count(0)", x.count(0), 2);
    }

    @Of(promise = 19, says = {"Restores the latest state of the history", "each change records everything before it but the text"})
    static void undoOfBelieveRestoresRounds() {
        BlindHunts x = Given.caught();
        x.believe(7);
        x.undo();
        Due.is("count(4)", x.count(4), 2);
        Due.is("count(5)", x.count(5), 1);
        Due.is("roundOf(1, 0)", x.roundOf(1, 0), 2);
        Due.is("roundOf(2, 0)", x.roundOf(2, 0), MISSING);
    }

    @Of(promise = 19, says = "Restores the latest state of the history")
    static void undoRestoresWhatIsForSure() {
        BlindHunts x = Given.row(3);
        Due.is("sure(7, 0)", x.sure(7, 0), 2);
        Due.is("deaf(7)", x.deaf(7), 2);
        x.road(0, 2);
        Due.is("sure(7, 0), a triangle", x.sure(7, 0), MISSING);
        Due.is("deaf(7), a triangle", x.deaf(7), MISSING);
        x.undo();
        Due.is("sure(7, 0), undone", x.sure(7, 0), 2);
        Due.is("deaf(7), undone", x.deaf(7), 2);
        Due.is("behind(1, 0, -1), undone", x.behind(1, 0, -1), 2);
    }
}

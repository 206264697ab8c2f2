import java.lang.reflect.InvocationTargetException;

/** Boundary cases of promises 20 to 23: texts, each a test of its own. */
final class TextEdgesTest {
    private static final int INVALID = BlindHunts.INVALID_ARGUMENT;
    private static final int IMPOSSIBLE = BlindHunts.NOT_POSSIBLE;
    private static final int LIMIT = BlindHunts.LIMIT_REACHED;
    private static final int MISSING = BlindHunts.NOT_FOUND;
    /** Far outside of every range; as a character of 8 or 16 bits some of them would be one that may be typed. */
    private static final int[] FAR = {Integer.MIN_VALUE, Integer.MAX_VALUE, 256 + 48, 65536 + 48, 128, 256, 65536, -2, -48, -65536 + 48};
    private static final String NINETEEN = ":0;:0;:0;:0;:0;:0;:0;:0;:0;:0;:0;:0;:0;:0;:0;:0;:0;:0;:0;";

    private TextEdgesTest() {
    }

    public static void main(String[] args) throws IllegalAccessException, InvocationTargetException {
        Edges.run(TextEdgesTest.class);
    }

    // ---- promise 20

    @Of(promise = 20, says = {"`character`: 32 to 126", "INVALID_ARGUMENT if character is out of range"})
    static void typeOneTooSmall() {
        Due.is("type(31)", new BlindHunts().type(31), INVALID);
    }

    @Of(promise = 20, says = {"`character`: 32 to 126", "INVALID_ARGUMENT if character is out of range"})
    static void typeOneTooLarge() {
        Due.is("type(127)", new BlindHunts().type(127), INVALID);
    }

    @Of(promise = 20, says = "INVALID_ARGUMENT if character is out of range")
    static void typeFarOut() {
        for (int far : FAR) {
            Due.is("type(" + far + ")", new BlindHunts().type(far), INVALID);
        }
        Due.is("type(0)", new BlindHunts().type(0), INVALID);
        Due.is("type(-1)", new BlindHunts().type(-1), INVALID);
    }

    @Of(promise = 20, says = {"`character`: 32 to 126", "Appends a character to the text"})
    static void typeLowest() {
        BlindHunts x = new BlindHunts();
        Due.is("type(32)", x.type(32), 1);
        Due.is("fault(1)", x.fault(1), 1);
    }

    @Of(promise = 20, says = {"`character`: 32 to 126", "Appends a character to the text"})
    static void typeHighest() {
        BlindHunts x = new BlindHunts();
        Due.is("type(126)", x.type(126), 1);
        Due.is("fault(1)", x.fault(1), 1);
    }

    @Of(promise = 20, says = {"Returns the length of the text", "There is a text of at most 60 characters"})
    static void typeSixtiethCharacter() {
        BlindHunts x = Given.write(new BlindHunts(), NINETEEN + "0:");
        Due.is("type(48)", x.type(48), 60);
        Due.is("count(7)", x.count(7), 60);
    }

    @Of(promise = 20, says = "LIMIT_REACHED if it has 60 characters")
    static void typeOneCharacterTooMany() {
        BlindHunts x = Given.write(new BlindHunts(), NINETEEN + ":0;");
        for (int character = 32; character <= 126; character++) {
            Due.is("type(" + character + ")", x.type(character), LIMIT);
        }
        Due.is("count(7)", x.count(7), 60);
    }

    @Of(promise = 20, says = {"INVALID_ARGUMENT if character is out of range", "NOT_POSSIBLE rather than LIMIT_REACHED"})
    static void typeOutOfRangeWhenTheTextIsFull() {
        BlindHunts x = Given.write(new BlindHunts(), NINETEEN + ":0;");
        Due.is("type(31)", x.type(31), INVALID);
        Due.is("type(127)", x.type(127), INVALID);
    }

    @Of(promise = 20, says = "LIMIT_REACHED if it has 60 characters")
    static void typeBehindAFullTextThatWasCleared() {
        BlindHunts x = Given.write(new BlindHunts(), NINETEEN + ":0;");
        x.clearText();
        Due.is("type(48)", x.type(48), 1);
    }

    @Of(promise = 20, says = {"INVALID_ARGUMENT if character is out of range", "A call that returns an error changes nothing"})
    static void typeOutOfRangeChangesNothing() {
        Look.refused(Given::busy, "type(31)", x -> x.type(31), INVALID);
        Look.refused(BlindHunts::new, "type(127)", x -> x.type(127), INVALID);
    }

    @Of(promise = 20, says = {"LIMIT_REACHED if it has 60 characters", "A call that returns an error changes nothing"})
    static void typeOverTheLimitChangesNothing() {
        Look.refused(TextEdgesTest::fullText, "type(48)", x -> x.type(48), LIMIT);
        Look.refused(TextEdgesTest::fullText, "type(59)", x -> x.type(59), LIMIT);
    }

    /** A text of 60 characters, twenty rounds, that can be played. */
    private static BlindHunts fullText() {
        return Given.write(Given.believing(Given.settings(Given.row(3), 1, 0, 1), 7), NINETEEN + ":0;");
    }

    @Of(promise = 20, says = {"Appends a character to the text", "The changes are the calls of place, road, shut, set, believe, check and play that return no error"})
    static void typeIsNoChange() {
        BlindHunts x = Given.country("0");
        x.type(48);
        Due.is("count(6)", x.count(6), 1);
        Due.is("undo()", x.undo(), 0);
        Due.is("count(7)", x.count(7), 1);
    }

    // ---- promise 21

    @Of(promise = 21, says = "Returns the length it had")
    static void clearAnEmptyText() {
        Due.is("clearText(), new", new BlindHunts().clearText(), 0);
        BlindHunts x = Given.busy();
        x.clearText();
        Due.is("clearText() again", x.clearText(), 0);
    }

    @Of(promise = 21, says = "Returns the length it had")
    static void clearATextOfOneCharacter() {
        BlindHunts x = Given.write(new BlindHunts(), ";");
        Due.is("clearText()", x.clearText(), 1);
        Due.is("count(7)", x.count(7), 0);
    }

    @Of(promise = 21, says = {"Returns the length it had", "Empties the text"})
    static void clearAFullText() {
        BlindHunts x = fullText();
        Due.is("clearText()", x.clearText(), 60);
        Due.is("count(7)", x.count(7), 0);
        Due.is("fault(0)", x.fault(0), MISSING);
        Due.is("play()", x.play(), 0);
    }

    @Of(promise = 21, says = "Empties the text")
    static void clearLeavesNothingOfALongerText() {
        BlindHunts x = fullText();
        x.clearText();
        x.type(':');
        x.type('0');
        Due.is("fault(0), the sign behind it was cleared", x.fault(0), 0);
        Due.is("fault(1)", x.fault(1), 1);
    }

    @Of(promise = 21, says = {"Empties the text", "The changes are the calls of place, road, shut, set, believe, check and play that return no error"})
    static void clearIsNoChange() {
        BlindHunts x = Given.write(Given.country("0"), "0:");
        x.clearText();
        Due.is("count(6)", x.count(6), 1);
        Due.is("undo()", x.undo(), 0);
        Due.is("count(7), undo leaves the text as it is", x.count(7), 0);
    }

    // ---- promise 22

    /** Three places in a row, a calm hare that can be at each of them. */
    private static BlindHunts three(String text) {
        return Given.write(Given.believing(Given.settings(Given.row(3), 1, 0, 1), 7), text);
    }

    private static BlindHunts threeByTwo(String text) {
        BlindHunts x = three(text);
        x.set(2, 2);
        return x;
    }

    private static void faultIs(BlindHunts x, String text, int position, int reason) {
        Due.is("fault(0) of " + text, x.fault(0), position);
        Due.is("fault(1) of " + text, x.fault(1), reason);
    }

    private static void noFault(BlindHunts x, String text) {
        faultIs(x, text, MISSING, MISSING);
    }

    @Of(promise = 22, says = {"`what`: 0: its position", "INVALID_ARGUMENT if what is out of range"})
    static void faultWhatOneTooSmall() {
        Due.is("fault(-1)", three("9").fault(-1), INVALID);
    }

    @Of(promise = 22, says = {"1: its reason", "INVALID_ARGUMENT if what is out of range"})
    static void faultWhatOneTooLarge() {
        Due.is("fault(2)", three("9").fault(2), INVALID);
    }

    @Of(promise = 22, says = "INVALID_ARGUMENT if what is out of range")
    static void faultFarOut() {
        for (int far : FAR) {
            Due.is("fault(" + far + ")", three("9").fault(far), INVALID);
        }
    }

    @Of(promise = 22, says = {"INVALID_ARGUMENT if what is out of range", "and LIMIT_REACHED rather than NOT_FOUND"})
    static void faultWhatOutOfRangeWithoutAFault() {
        Due.is("fault(2), empty", new BlindHunts().fault(2), INVALID);
        Due.is("fault(-1), no fault", three(":0;").fault(-1), INVALID);
    }

    @Of(promise = 22, says = "NOT_FOUND if the text has no fault (also if it is empty)")
    static void faultOfAnEmptyText() {
        noFault(new BlindHunts(), "nothing, new");
        noFault(Given.caught(), "nothing, caught");
    }

    @Of(promise = 22, says = "NOT_FOUND if the text has no fault")
    static void faultOfATextWithoutOne() {
        noFault(three(":0;"), "one round");
        noFault(fullText(), "twenty rounds");
    }

    @Of(promise = 22, says = {"Returns that", "the position, from 0, of the first character of the first round that is not possible"})
    static void faultAtTheFirstCharacter() {
        faultIs(three("x"), "x", 0, 1);
        faultIs(three("3:0;:0;"), "3:0;:0;", 0, 2);
        faultIs(three(":1;:0;"), ":1;:0;", 0, 3);
    }

    @Of(promise = 22, says = "the position, from 0, of the first character of the first round that is not possible")
    static void faultAtTheLastCharacter() {
        String most = "01:0;:0;:0;:0;:0;:0;:0;:0;:0;:0;:0;:0;:0;:0;:0;:0;:0;:0;:0;0";
        BlindHunts x = threeByTwo(most);
        Due.is("count(7)", x.count(7), 60);
        faultIs(x, most, 59, 1);
    }

    @Of(promise = 22, says = "the position, from 0, of the first character of the first round that is not possible")
    static void faultOfTheLastRoundOfAFullText() {
        faultIs(three(NINETEEN + ":1;"), "twenty rounds", 57, 3);
        faultIs(three(NINETEEN + "0:0"), "nineteen rounds and one without its end", 57, 1);
    }

    @Of(promise = 22, says = "of the first round that is not possible")
    static void faultOfTheFirstOfSome() {
        faultIs(three(":0;:1;3:0;x"), ":0;:1;3:0;x", 3, 3);
        faultIs(three(":0;3:0;:1;x"), ":0;3:0;:1;x", 3, 2);
        faultIs(three(":0;x:1;3:0;"), ":0;x:1;3:0;", 3, 1);
    }

    @Of(promise = 22, says = "no, one or two digits (the places that are checked)")
    static void faultOfAsManyDigitsAsMayBe() {
        noFault(threeByTwo(":0;"), ":0;");
        noFault(threeByTwo("0:0;"), "0:0;");
        noFault(threeByTwo("01:0;"), "01:0;");
    }

    @Of(promise = 22, says = {"no, one or two digits (the places that are checked)", "its reason is 1 if it is not of this form"})
    static void faultOfOneDigitTooMany() {
        faultIs(threeByTwo("012:0;"), "012:0;", 0, 1);
        faultIs(three("000:0;"), "000:0;", 0, 1);
    }

    @Of(promise = 22, says = {"and \":\" and a digit (the signal)", "its reason is 1 if it is not of this form"})
    static void faultOfNoSignal() {
        faultIs(three("0:;"), "0:;", 0, 1);
        faultIs(three(":;"), ":;", 0, 1);
    }

    @Of(promise = 22, says = {"and \":\" and a digit (the signal)", "its reason is 1 if it is not of this form"})
    static void faultOfASignalOfTwoDigits() {
        faultIs(three("0:00;"), "0:00;", 0, 1);
    }

    @Of(promise = 22, says = {"and \":\" and a digit (the signal)", "its reason is 1 if it is not of this form"})
    static void faultOfNoColon() {
        faultIs(three("0;"), "0;", 0, 1);
        faultIs(three("00;"), "00;", 0, 1);
        faultIs(three(";"), ";", 0, 1);
        faultIs(three("0::0;"), "0::0;", 0, 1);
    }

    @Of(promise = 22, says = {"its reason is 1 if it is not of this form, its \";\" included", "each followed by \";\""})
    static void faultOfARoundThatEndsTooSoon() {
        String round = "01:0;";
        noFault(threeByTwo(round), round);
        for (int length = 1; length < round.length(); length++) {
            String text = round.substring(0, length);
            faultIs(threeByTwo(text), text, 0, 1);
            faultIs(threeByTwo(round + text), round + text, 5, 1);
        }
    }

    @Of(promise = 22, says = {"its reason is 1 if it is not of this form, its \";\" included", "each followed by \";\""})
    static void faultOfAnotherSignAtTheEndOfARound() {
        faultIs(three("0:0,"), "0:0,", 0, 1);
        faultIs(three("0:0:"), "0:0:", 0, 1);
        faultIs(three("0:0<"), "0:0<", 0, 1);
    }

    @Of(promise = 22, says = {"no, one or two digits (the places that are checked)", "its reason is 1 if it is not of this form"})
    static void faultOfTheSignsBesideTheDigits() {
        // '/' comes ahead of '0', and ':' behind '9'.
        faultIs(three("/:0;"), "/:0;", 0, 1);
        faultIs(three("0/:0;"), "0/:0;", 0, 1);
        faultIs(three("0:/;"), "0:/;", 0, 1);
        faultIs(three("0::;"), "0::;", 0, 1);
        faultIs(three("9:0;"), "9:0;, of the right form", 0, 2);
        faultIs(three("0:9;"), "0:9;, of the right form", 0, 3);
    }

    @Of(promise = 22, says = "its reason is 1 if it is not of this form")
    static void faultOfABlankBetweenRounds() {
        faultIs(three(":0; :0;"), ":0; :0;", 3, 1);
        faultIs(three(" "), " ", 0, 1);
        faultIs(three(":0;;"), ":0;;", 3, 1);
    }

    @Of(promise = 22, says = "2 if there is no such place")
    static void faultOfAPlaceOneTooLarge() {
        for (int places = 1; places <= 7; places++) {
            BlindHunts x = Given.believing(Given.settings(Given.row(places), 1, 0, 1), (1 << places) - 1);
            noFault(Given.write(x, places - 1 + ":0;"), places - 1 + ":0;");
            faultIs(Given.write(x, places + ":0;"), places + ":0;", 0, 2);
            faultIs(Given.write(x, "9:0;"), "9:0;", 0, 2);
        }
        faultIs(Given.write(new BlindHunts(), "0:0;"), "0:0; without places", 0, 2);
    }

    @Of(promise = 22, says = "2 if there is no such place")
    static void faultOfAPlaceOneTooLargeAsOneOfTwo() {
        noFault(threeByTwo("02:0;"), "02:0;");
        faultIs(threeByTwo("03:0;"), "03:0;", 0, 2);
        faultIs(threeByTwo("30:0;"), "30:0;", 0, 2);
    }

    @Of(promise = 22, says = "one is told twice")
    static void faultOfAPlaceToldTwice() {
        faultIs(threeByTwo("00:0;"), "00:0;", 0, 2);
        faultIs(threeByTwo("22:0;"), "22:0;", 0, 2);
        faultIs(three("11:0;"), "11:0;, one check", 0, 2);
        noFault(threeByTwo("10:0;"), "10:0;");
    }

    @Of(promise = 22, says = "or there are more places than the budget tells")
    static void faultOfOnePlaceMoreThanTheBudget() {
        faultIs(three("01:0;"), "01:0;", 0, 2);
        noFault(threeByTwo("01:0;"), "01:0;");
    }

    @Of(promise = 22, says = {"2 if there is no such place", "and 3 if it is not possible otherwise"})
    static void faultOfPlacesComesAheadOfOtherReasons() {
        faultIs(three("3:4;"), "3:4;", 0, 2);
        faultIs(three("01:1;"), "01:1;", 0, 2);
        faultIs(threeByTwo("11:9;"), "11:9;", 0, 2);
        faultIs(Given.write(Given.caught(), "3:0;"), "3:0;, caught", 0, 2);
    }

    @Of(promise = 22, says = {"its reason is 1 if it is not of this form", "2 if there is no such place"})
    static void faultOfFormComesAheadOfOtherReasons() {
        faultIs(three("9:4"), "9:4", 0, 1);
        faultIs(three("00:1"), "00:1", 0, 1);
        faultIs(Given.write(Given.caught(), "9:"), "9:, caught", 0, 1);
    }

    @Of(promise = 22, says = "by what check tells, a signal above 3, too")
    static void faultOfASignalOneTooLarge() {
        BlindHunts x = Given.believing(Given.settings(Given.ring(), 0, 1, 1), 15);
        noFault(Given.write(x, ":3;"), ":3;");
        faultIs(Given.write(x, ":4;"), ":4;", 0, 3);
        faultIs(Given.write(x, ":9;"), ":9;", 0, 3);
    }

    @Of(promise = 22, says = {"by what check tells, a signal above 3, too", "any signal will do"})
    static void faultOfASignalThatCatchesOneTooLarge() {
        BlindHunts x = Given.believing(Given.row(3), 4);
        noFault(Given.write(x, "2:3;"), "2:3;");
        faultIs(Given.write(x, "2:4;"), "2:4;", 0, 3);
    }

    @Of(promise = 22, says = {"and 3 if it is not possible otherwise (by what check tells", "NOT_POSSIBLE if the belief is empty"})
    static void faultOfARoundWithoutABelief() {
        faultIs(Given.write(new BlindHunts(), ":0;"), ":0; without places", 0, 3);
        faultIs(Given.write(Given.row(3), "0:0;"), "0:0;", 0, 3);
        faultIs(Given.write(Given.caught(), ":0;"), ":0;, caught", 0, 3);
    }

    @Of(promise = 22, says = {"and 3 if it is not possible otherwise (by what check tells", "or this signal cannot be heard"})
    static void faultOfASignalThatCannotBeHeard() {
        faultIs(three("0:1;"), "0:1;", 0, 3);
        faultIs(three("0:3;"), "0:3;", 0, 3);
    }

    @Of(promise = 22, says = {"when those ahead of it are done", "any signal will do"})
    static void faultOfARoundBehindOneThatCatches() {
        BlindHunts x = Given.believing(Given.row(3), 7);
        noFault(Given.write(x, "1:0;1:0;"), "1:0;1:0;");
        noFault(Given.write(x, "1:0;1:3;"), "1:0;1:3;");
        faultIs(Given.write(x, "1:0;1:0;:0;"), "1:0;1:0;:0;", 8, 3);
    }

    @Of(promise = 22, says = "when those ahead of it are done")
    static void faultHangsOnTheRoundsAheadOfIt() {
        BlindHunts x = Given.believing(Given.settings(Given.ring(), 0, 1, 1), 15);
        noFault(Given.write(x, ":1;:2;:1;:0;"), ":1;:2;:1;:0;");
        faultIs(Given.write(x, ":1;:1;"), ":1;:1;", 3, 3);
        faultIs(Given.write(x, ":1;:2;:0;"), ":1;:2;:0;", 6, 3);
        Given.believing(x, 1);
        faultIs(Given.write(x, ":2;"), ":2;", 0, 3);
    }

    @Of(promise = 22, says = {"Tells about the fault of the text", "The changes are the calls of place, road, shut, set, believe, check and play that return no error"})
    static void faultChangesNothing() {
        Look.unchanged(Given::busy, "fault(0)", x -> x.fault(0));
        Look.unchanged(Given::full, "fault(1)", x -> x.fault(1));
        Look.unchanged(() -> three(":0;:1;"), "fault(0) of a fault", x -> x.fault(0));
        Look.unchanged(Given::busy, "fault(2)", x -> x.fault(2));
    }

    // ---- promise 23

    @Of(promise = 23, says = {"Returns how many rounds there are in it", "They are one change, also if there are none"})
    static void playAnEmptyText() {
        BlindHunts x = new BlindHunts();
        Due.is("play()", x.play(), 0);
        Due.is("count(6)", x.count(6), 1);
        Due.is("undo()", x.undo(), 0);
        BlindHunts caught = Given.caught();
        Due.is("play(), caught", caught.play(), 0);
        Due.is("count(5), caught", caught.count(5), 1);
    }

    @Of(promise = 23, says = {"Returns how many rounds there are in it", "Makes all rounds of the text"})
    static void playAFullTextOfTheMostRounds() {
        BlindHunts x = fullText();
        Due.is("play()", x.play(), 20);
        Due.is("count(4)", x.count(4), 20);
        Due.is("play() again", x.play(), 20);
        Due.is("count(4)", x.count(4), 40);
    }

    @Of(promise = 23, says = {"Makes all rounds of the text", "which stays"})
    static void playAsOftenAsAnObjectCanBeCalled() {
        BlindHunts x = fullText();
        for (int played = 1; played <= 430; played++) {
            Due.is("play() " + played, x.play(), 20);
        }
        Due.is("count(4)", x.count(4), 8600);
        Due.is("roundOf(7, 0)", x.roundOf(7, 0), 0);
        Due.is("undo()", x.undo(), 3);
        Due.is("count(4), one undone", x.count(4), 8580);
    }

    @Of(promise = 23, says = {"They are one change", "each change records everything before it but the text"})
    static void playOfManyRoundsIsOneChange() {
        BlindHunts x = fullText();
        for (int i = 0; i < 4; i++) {
            x.undo();
        }
        x.believe(7);
        x.play();
        Due.is("count(6)", x.count(6), 2);
        Due.is("undo()", x.undo(), 1);
        Due.is("count(4)", x.count(4), 0);
        Due.is("count(3)", x.count(3), 7);
        Due.is("roundOf(0, 0)", x.roundOf(0, 0), MISSING);
    }

    @Of(promise = 23, says = {"They are one change", "if there are 5 states then, the oldest one is dropped"})
    static void playDropsTheOldestStateOfAFullHistory() {
        BlindHunts x = Given.write(Given.country("00000"), "");
        Due.is("play()", x.play(), 0);
        Due.is("count(6)", x.count(6), 4);
        Due.is("undo()", x.undo(), 3);
        Due.is("count(0)", x.count(0), 5);
        for (int left = 2; left >= 0; left--) {
            Due.is("undo()", x.undo(), left);
            Due.is("count(0)", x.count(0), left + 2);
        }
        Due.is("undo() once more", x.undo(), IMPOSSIBLE);
    }

    @Of(promise = 23, says = {"Makes all rounds of the text, which stays", "the text"})
    static void playLeavesTheText() {
        BlindHunts x = three("0:0;:0;");
        x.play();
        Due.is("count(7)", x.count(7), 7);
        Due.is("fault(0)", x.fault(0), MISSING);
        x.undo();
        Due.is("count(7), undone", x.count(7), 7);
        Due.is("play()", x.play(), 2);
    }

    @Of(promise = 23, says = "Makes all rounds of the text")
    static void playIsLikeTheChecksOfItsRounds() {
        BlindHunts x = Given.believing(Given.settings(Given.ring(), 1, 1, 2), 15);
        Given.write(x, "01:2;:3;21:0;0:3;");
        Due.is("play()", x.play(), 4);
        BlindHunts y = Given.believing(Given.settings(Given.ring(), 1, 1, 2), 15);
        y.check(3, 2);
        y.check(0, 3);
        y.check(6, 0);
        y.check(1, 3);
        for (int round = 0; round <= 4; round++) {
            for (int what = 0; what <= 2; what++) {
                Due.is("roundOf(" + round + ", " + what + ")", x.roundOf(round, what), y.roundOf(round, what));
            }
        }
        Due.is("count(3)", x.count(3), y.count(3));
        Due.is("count(4)", x.count(4), y.count(4));
        Due.is("count(5)", x.count(5), y.count(5));
    }

    @Of(promise = 23, says = {"Makes all rounds of the text", "any signal will do"})
    static void playThatCatchesInItsLastRound() {
        BlindHunts x = Given.write(Given.believing(Given.row(3), 7), "1:0;1:3;");
        Due.is("play()", x.play(), 2);
        Due.is("count(3)", x.count(3), 0);
        Due.is("count(5)", x.count(5), 1);
        Due.is("roundOf(0, 1)", x.roundOf(0, 1), 3);
        Due.is("play() again", x.play(), IMPOSSIBLE);
    }

    @Of(promise = 23, says = "NOT_POSSIBLE if it has a fault")
    static void playOfEachFault() {
        Due.is("play(), form", three(":0;0").play(), IMPOSSIBLE);
        Due.is("play(), places", three(":0;3:0;").play(), IMPOSSIBLE);
        Due.is("play(), signal", three(":0;:1;").play(), IMPOSSIBLE);
        Due.is("play(), no belief", Given.write(new BlindHunts(), ":0;").play(), IMPOSSIBLE);
    }

    @Of(promise = 23, says = {"NOT_POSSIBLE if it has a fault", "A call that returns an error changes nothing"})
    static void playOfAFaultInTheLastRoundChangesNothing() {
        Look.refused(() -> three("0:0;1:0;:1;"), "play()", x -> x.play(), IMPOSSIBLE);
        Look.refused(() -> three(NINETEEN + "0:0"), "play()", x -> x.play(), IMPOSSIBLE);
        Look.refused(() -> Given.write(Given.busy(), "0:0;01:0;44:0;"), "play()", x -> x.play(), IMPOSSIBLE);
    }

    @Of(promise = 23, says = {"NOT_POSSIBLE if it has a fault", "A call that returns an error changes nothing"})
    static void playOfAFaultInTheFirstRoundChangesNothing() {
        Look.refused(() -> three("x0:0;"), "play()", x -> x.play(), IMPOSSIBLE);
        Look.refused(() -> Given.write(Given.caught(), ":0;"), "play()", x -> x.play(), IMPOSSIBLE);
        Look.refused(() -> Given.write(new BlindHunts(), ";"), "play()", x -> x.play(), IMPOSSIBLE);
    }
}

/** A test for each promise of the document: ordinary inputs, the edges that it names, and wrong inputs. */
final class PromisesTest {
    private static final int INVALID = BlindHunts.INVALID_ARGUMENT;
    private static final int IMPOSSIBLE = BlindHunts.NOT_POSSIBLE;
    private static final int LIMIT = BlindHunts.LIMIT_REACHED;
    private static final int MISSING = BlindHunts.NOT_FOUND;
    private static final int LOW = Integer.MIN_VALUE;
    private static final int HIGH = Integer.MAX_VALUE;

    private PromisesTest() {
    }

    public static void main(String[] args) {
        constants();
        newObject();
        place();
        road();
        shut();
        set();
        believe();
        check();
        checkByKinds();
        placeOf();
        leaping();
        roundOf();
        behind();
        behindByKinds();
        sure();
        sureByKinds();
        deaf();
        memory();
        beliefs();
        dangers();
        ways();
        waysLimit();
        met();
        count();
        undo();
        history();
        type();
        clearText();
        faultOfForm();
        faultOfPlaces();
        faultOfRound();
        play();
        manyRounds();
        Due.end("PromisesTest");
    }

    private static void constants() {
        Due.at("constants");
        Due.is("INVALID_ARGUMENT", BlindHunts.INVALID_ARGUMENT, -1000001);
        Due.is("NOT_POSSIBLE", BlindHunts.NOT_POSSIBLE, -1000002);
        Due.is("LIMIT_REACHED", BlindHunts.LIMIT_REACHED, -1000003);
        Due.is("NOT_FOUND", BlindHunts.NOT_FOUND, -1000004);
    }

    private static void newObject() {
        Due.at("promise 1");
        BlindHunts x = new BlindHunts();
        for (int what = 0; what <= 7; what++) {
            Due.is("count(" + what + ")", x.count(what), 0);
        }
        Due.is("count(20)", x.count(20), 0);
        Due.is("count(21)", x.count(21), 0);
        Due.is("count(22)", x.count(22), 1);
        Due.is("undo()", x.undo(), IMPOSSIBLE);
        Due.is("placeOf(0, 0)", x.placeOf(0, 0), INVALID);
        Due.is("roundOf(0, 0)", x.roundOf(0, 0), MISSING);
        Due.is("fault(0)", x.fault(0), MISSING);
        new BlindHunts().place(1);
        Due.is("count(0), another object has a place", x.count(0), 0);
    }

    private static void place() {
        Due.at("promise 2");
        BlindHunts x = new BlindHunts();
        for (int wrong : new int[] {-1, 4, LOW, HIGH}) {
            Due.is("place(" + wrong + ")", x.place(wrong), INVALID);
        }
        Due.is("count(6) behind wrong ones", x.count(6), 0);
        for (int i = 0; i < 7; i++) {
            Due.is("place " + i, x.place(i % 4), i);
            Due.is("color " + i, x.placeOf(i, 0), i % 4);
            Due.is("roads " + i, x.placeOf(i, 1), 0);
            Due.is("reach " + i, x.placeOf(i, 3), 1 << i);
        }
        Due.is("an eighth place", x.place(0), LIMIT);
        Due.is("an eighth place of no color", x.place(4), INVALID);
        Due.is("count(0)", x.count(0), 7);
        Due.is("count(6)", x.count(6), 4);
        BlindHunts y = Given.country("00");
        y.believe(3);
        Due.is("check(1, 0)", y.check(1, 0), 1);
        Due.is("place(2)", y.place(2), 2);
        Due.is("the belief stays", y.count(3), 2);
        Due.is("the rounds stay", y.count(4), 1);
        Due.is("not in the belief", y.placeOf(2, 4), 0);
        Due.is("a set with the new place", y.believe(7), 3);
    }

    private static void road() {
        Due.at("promise 3");
        BlindHunts x = Given.country("0123");
        Due.is("road(0, 1)", x.road(0, 1), 1);
        Due.is("road(3, 1)", x.road(3, 1), 2);
        Due.is("road(0, 1) again", x.road(0, 1), IMPOSSIBLE);
        Due.is("road(1, 0), the other way", x.road(1, 0), IMPOSSIBLE);
        Due.is("road(2, 2)", x.road(2, 2), INVALID);
        Due.is("road(0, 4)", x.road(0, 4), INVALID);
        Due.is("road(4, 0)", x.road(4, 0), INVALID);
        Due.is("road(-1, 0)", x.road(-1, 0), INVALID);
        Due.is("road(0, -1)", x.road(0, -1), INVALID);
        Due.is("road(LOW, HIGH)", x.road(LOW, HIGH), INVALID);
        Due.is("roads of 1", x.placeOf(1, 1), 9);
        Due.is("open roads of 1", x.placeOf(1, 2), 9);
        Due.is("roads of 3", x.placeOf(3, 1), 2);
        Due.is("shut(0, 1, 1)", x.shut(0, 1, 1), 1);
        Due.is("road(0, 1) where a shut one is", x.road(0, 1), IMPOSSIBLE);
        Due.is("road(2, 3), shut ones are counted", x.road(2, 3), 3);
        Due.is("count(1)", x.count(1), 3);
        Due.is("count(2)", x.count(2), 2);
    }

    private static void shut() {
        Due.at("promise 4");
        BlindHunts x = Given.country("000", 0, 1, 1, 2);
        Due.is("shut(0, 1, 0), it is open", x.shut(0, 1, 0), IMPOSSIBLE);
        Due.is("shut(1, 0, 1)", x.shut(1, 0, 1), 1);
        Due.is("shut(0, 1, 1), it is shut", x.shut(0, 1, 1), IMPOSSIBLE);
        Due.is("shut(0, 2, 1), no road", x.shut(0, 2, 1), IMPOSSIBLE);
        Due.is("shut(0, 2, 0), no road", x.shut(0, 2, 0), IMPOSSIBLE);
        Due.is("shut(0, 2, 2)", x.shut(0, 2, 2), INVALID);
        Due.is("shut(0, 1, -1)", x.shut(0, 1, -1), INVALID);
        Due.is("shut(0, 0, 1)", x.shut(0, 0, 1), INVALID);
        Due.is("shut(0, 3, 1)", x.shut(0, 3, 1), INVALID);
        Due.is("shut(-1, 0, 1)", x.shut(-1, 0, 1), INVALID);
        Due.is("roads of 0", x.placeOf(0, 1), 2);
        Due.is("open roads of 0", x.placeOf(0, 2), 0);
        Due.is("open roads of 1", x.placeOf(1, 2), 4);
        Due.is("a shut road is not gone", x.placeOf(0, 3), 1);
        Due.is("shut(1, 2, 1)", x.shut(1, 2, 1), 0);
        Due.is("shut(0, 1, 0)", x.shut(0, 1, 0), 1);
        Due.is("open roads of 1 then", x.placeOf(1, 2), 1);
        Due.is("count(6)", x.count(6), 4);
    }

    private static void set() {
        Due.at("promise 5");
        BlindHunts x = new BlindHunts();
        Due.is("set(0, 3)", x.set(0, 3), 0);
        Due.is("set(0, 1)", x.set(0, 1), 3);
        Due.is("set(1, 3)", x.set(1, 3), 0);
        Due.is("set(1, 0)", x.set(1, 0), 3);
        Due.is("set(2, 2)", x.set(2, 2), 1);
        Due.is("set(2, 2), as it is", x.set(2, 2), 2);
        Due.is("set(2, 1)", x.set(2, 1), 2);
        int[][] wrong = {{-1, 0}, {3, 1}, {0, -1}, {0, 4}, {1, -1}, {1, 4}, {2, 0}, {2, 3}, {LOW, 1}, {HIGH, 1}, {0, HIGH}};
        for (int[] pair : wrong) {
            Due.is("set(" + pair[0] + ", " + pair[1] + ")", x.set(pair[0], pair[1]), INVALID);
        }
        Due.is("count(20)", x.count(20), 1);
        Due.is("count(21)", x.count(21), 0);
        Due.is("count(22)", x.count(22), 1);
    }

    private static void believe() {
        Due.at("promise 6");
        BlindHunts x = Given.row(3);
        Due.is("believe(5)", x.believe(5), 2);
        Due.is("count(3)", x.count(3), 5);
        x.check(1, 0);
        Due.is("count(4)", x.count(4), 1);
        Due.is("believe(7)", x.believe(7), 3);
        Due.is("the rounds are 0", x.count(4), 0);
        Due.is("no round is told", x.roundOf(0, 0), MISSING);
        Due.is("believe(8)", x.believe(8), INVALID);
        Due.is("believe(-1)", x.believe(-1), INVALID);
        Due.is("believe(HIGH)", x.believe(HIGH), INVALID);
        Due.is("count(3) behind wrong ones", x.count(3), 7);
        Due.is("believe(0)", x.believe(0), 0);
        Due.is("not caught by a round", x.count(5), 0);
    }

    private static void check() {
        Due.at("promise 7");
        BlindHunts x = Given.row(3);
        Due.is("check(0, 0), empty belief", x.check(0, 0), IMPOSSIBLE);
        Due.is("check(3, 0), empty belief, over the budget", x.check(3, 0), INVALID);
        x.believe(7);
        Due.is("check(8, 0)", x.check(8, 0), INVALID);
        Due.is("check(-1, 0)", x.check(-1, 0), INVALID);
        Due.is("check(1, 4)", x.check(1, 4), INVALID);
        Due.is("check(1, -1)", x.check(1, -1), INVALID);
        Due.is("check(3, 0), over the budget", x.check(3, 0), INVALID);
        Due.is("check(1, 1), not to be heard", x.check(1, 1), IMPOSSIBLE);
        Due.is("count(4)", x.count(4), 0);
        Due.is("check(0, 0)", x.check(0, 0), 3);
        Due.is("check(2, 0)", x.check(2, 0), 1);
        Due.is("count(3)", x.count(3), 2);
        Due.is("check(1, 0), it is not there", x.check(1, 0), 2);
        Due.is("count(3)", x.count(3), 5);
        x.set(2, 2);
        Due.is("check(7, 0), over the budget", x.check(7, 0), INVALID);
        Due.is("check(5, 3), caught, any signal", x.check(5, 3), 0);
        Due.is("count(5)", x.count(5), 1);
        Due.is("check(5, 0), caught before", x.check(5, 0), IMPOSSIBLE);
        Due.is("check(5, 4), caught before", x.check(5, 4), INVALID);
        x.believe(2);
        Due.is("check(6, 2), caught with more places", x.check(6, 2), 0);
    }

    private static void checkByKinds() {
        Due.at("promise 7, kinds");
        // A ring of four with colors 0 to 3 and a place apart.
        BlindHunts x = Given.settings(Given.country("01230", 0, 1, 1, 2, 2, 3, 3, 0), 0, 1, 1);
        x.believe(31);
        Due.is("color 1 is heard", x.check(1, 1), 1);
        Due.is("belief", x.count(3), 2);
        x.believe(31);
        Due.is("color 0 is heard of both places", x.check(0, 0), 2);
        Due.is("belief", x.count(3), 17);
        Given.settings(x, 0, 2, 1);
        x.believe(31);
        Due.is("it stays only apart", x.check(0, 0), 1);
        Due.is("belief", x.count(3), 16);
        x.believe(31);
        Due.is("it moves on the ring", x.check(0, 1), 4);
        Due.is("belief", x.count(3), 15);
        Given.settings(x, 3, 2, 2);
        x.believe(1);
        Due.is("a shy one does not move there", x.check(10, 1), IMPOSSIBLE);
        Due.is("a shy one stays", x.check(10, 0), 1);
        Due.is("belief", x.count(3), 1);
        Given.settings(x, 1, 2, 2);
        Due.is("a calm one moves there", x.check(10, 1), 2);
        Due.is("belief", x.count(3), 10);
        Given.settings(x, 1, 3, 2);
        x.believe(31);
        Due.is("no roads", x.check(0, 0), 1);
        x.believe(31);
        Due.is("two roads", x.check(0, 2), 4);
    }

    private static void placeOf() {
        Due.at("promise 8");
        BlindHunts x = Given.country("3120", 0, 1, 1, 2, 2, 3);
        x.shut(1, 2, 1);
        x.believe(6);
        Due.is("color of 0", x.placeOf(0, 0), 3);
        Due.is("color of 3", x.placeOf(3, 0), 0);
        Due.is("roads of 1", x.placeOf(1, 1), 5);
        Due.is("open roads of 1", x.placeOf(1, 2), 1);
        Due.is("0 is not in the belief", x.placeOf(0, 4), 0);
        Due.is("1 is in the belief", x.placeOf(1, 4), 1);
        Due.is("restless", x.placeOf(1, 3), 1);
        x.set(0, 1);
        Due.is("calm", x.placeOf(1, 3), 3);
        x.set(0, 3);
        Due.is("shy, nothing checked", x.placeOf(1, 3), 3);
        x.set(0, 2);
        Due.is("leaping", x.placeOf(1, 3), 3);
        for (int what : new int[] {-1, 5, LOW, HIGH}) {
            Due.is("placeOf(0, " + what + ")", x.placeOf(0, what), INVALID);
        }
        for (int place : new int[] {-1, 4, 7, LOW, HIGH}) {
            Due.is("placeOf(" + place + ", 0)", x.placeOf(place, 0), INVALID);
        }
    }

    private static void leaping() {
        Due.at("promise 8, leaping");
        BlindHunts x = Given.settings(Given.row(5), 2, 0, 1);
        Due.is("from 0", x.placeOf(0, 3), 7);
        Due.is("from 1", x.placeOf(1, 3), 15);
        Due.is("from 2", x.placeOf(2, 3), 31);
        x.shut(3, 4, 1);
        Due.is("from 4, no open road", x.placeOf(4, 3), 16);
        Due.is("from 2, one shut", x.placeOf(2, 3), 15);
        x.set(1, 2);
        Due.is("back to its place is no other place", x.behind(1, 0, 0), 1);
        Due.is("moved", x.behind(1, 0, 1), 6);
    }

    private static void roundOf() {
        Due.at("promise 9");
        BlindHunts x = Given.settings(Given.row(4), 1, 1, 1);
        x.believe(15);
        Due.is("no round yet", x.roundOf(0, 0), MISSING);
        x.check(1, 0);
        x.check(0, 0);
        x.check(2, 0);
        Due.is("latest: places", x.roundOf(0, 0), 2);
        Due.is("latest: signal", x.roundOf(0, 1), 0);
        Due.is("latest: belief", x.roundOf(0, 2), 15);
        Due.is("one ahead: places", x.roundOf(1, 0), 0);
        Due.is("first: places", x.roundOf(2, 0), 1);
        Due.is("not so many", x.roundOf(3, 0), MISSING);
        Due.is("roundOf(-1, 0)", x.roundOf(-1, 0), INVALID);
        Due.is("roundOf(8, 0)", x.roundOf(8, 0), INVALID);
        Due.is("roundOf(0, -1)", x.roundOf(0, -1), INVALID);
        Due.is("roundOf(0, 3)", x.roundOf(0, 3), INVALID);
        Due.is("roundOf(7, 3)", x.roundOf(7, 3), INVALID);
        Due.is("roundOf(7, 2)", x.roundOf(7, 2), MISSING);
        x.believe(4);
        x.check(4, 3);
        Due.is("caught: the signal as told", x.roundOf(0, 1), 3);
        Due.is("caught: belief", x.roundOf(0, 2), 0);
        Due.is("only since believe()", x.roundOf(1, 0), MISSING);
        x.undo();
        x.undo();
        Due.is("behind undo: places", x.roundOf(0, 0), 2);
        Due.is("behind undo: first", x.roundOf(2, 0), 1);
    }

    private static void behind() {
        Due.at("promise 10");
        BlindHunts x = Given.country("0102", 0, 1, 1, 2, 2, 3);
        Due.is("all together", x.behind(15, 2, -1), 14);
        Due.is("kind 0 hears 0 alone", x.behind(15, 2, 0), 14);
        Due.is("kind 0 never hears 1", x.behind(15, 2, 1), 0);
        Due.is("more places than the budget", x.behind(15, 7, 0), 4);
        Due.is("caught", x.behind(6, 7, -1), 0);
        Due.is("empty", x.behind(0, 0, -1), 0);
        x.set(1, 1);
        Due.is("color 0", x.behind(15, 0, 0), 5);
        Due.is("color 1", x.behind(15, 0, 1), 2);
        Due.is("color 2", x.behind(15, 0, 2), 8);
        Due.is("color 3", x.behind(15, 0, 3), 0);
        Due.is("all colors", x.behind(15, 0, -1), 15);
        Due.is("changes nothing", x.count(3), 0);
        int[][] wrong = {{16, 0, 0}, {-1, 0, 0}, {0, 16, 0}, {0, -1, 0}, {0, 0, 4}, {0, 0, -2}, {LOW, 0, 0}, {0, HIGH, 0}, {0, 0, LOW}};
        for (int[] w : wrong) {
            Due.is("behind(" + w[0] + ", " + w[1] + ", " + w[2] + ")", x.behind(w[0], w[1], w[2]), INVALID);
        }
    }

    private static void behindByKinds() {
        Due.at("promise 10, kinds");
        // A star around 0 with five ends; 6 stands apart.
        BlindHunts x = Given.country("0123012", 0, 1, 0, 2, 0, 3, 0, 4, 0, 5);
        Due.is("restless, from the middle", x.behind(1, 0, -1), 62);
        Due.is("restless, apart", x.behind(64, 0, -1), 64);
        x.set(1, 3);
        Due.is("five roads are heard as 3", x.behind(127, 0, 3), 1);
        Due.is("one road", x.behind(127, 0, 1), 62);
        Due.is("two roads", x.behind(127, 0, 2), 0);
        Due.is("none", x.behind(127, 0, 0), 64);
        x.shut(0, 5, 1);
        x.shut(0, 4, 1);
        Due.is("three roads", x.behind(2, 0, 3), 1);
        x.shut(0, 3, 1);
        Due.is("shut roads are not heard", x.behind(2, 0, 2), 1);
        Given.settings(x, 3, 0, 1);
        Due.is("shy, middle checked", x.behind(6, 1, -1), 6);
        Due.is("shy, an end checked", x.behind(3, 4, -1), 3);
        x.set(0, 1);
        Due.is("calm, middle checked", x.behind(6, 1, -1), 7);
        Given.settings(x, 1, 2, 1);
        Due.is("calm, heard to stay", x.behind(3, 0, 0), 3);
        Due.is("calm, heard to move", x.behind(3, 0, 1), 7);
        Due.is("never heard", x.behind(3, 0, 2), 0);
    }

    private static void sure() {
        Due.at("promise 11");
        BlindHunts x = Given.row(3);
        Due.is("sure(0, 0)", x.sure(0, 0), 0);
        Due.is("sure(0, 1)", x.sure(0, 1), 0);
        Due.is("sure(7, 0)", x.sure(7, 0), 2);
        Due.is("sure(7, 1)", x.sure(7, 1), 2);
        Due.is("sure(5, 0)", x.sure(5, 0), 2);
        Due.is("sure(5, 1), nothing is checked", x.sure(5, 1), 0);
        Due.is("sure(4, 1)", x.sure(4, 1), 4);
        Due.is("sure(8, 0)", x.sure(8, 0), INVALID);
        Due.is("sure(-1, 0)", x.sure(-1, 0), INVALID);
        Due.is("sure(1, 2)", x.sure(1, 2), INVALID);
        Due.is("sure(1, -1)", x.sure(1, -1), INVALID);
        BlindHunts ring = Given.country("0000", 0, 1, 1, 2, 2, 3, 3, 0);
        Due.is("a ring", ring.sure(15, 0), MISSING);
        Due.is("a ring, best check", ring.sure(15, 1), MISSING);
        Due.is("a ring, two across", ring.sure(5, 0), MISSING);
        Due.is("a ring, two side by side", ring.sure(3, 0), MISSING);
        Due.is("a ring, one", ring.sure(8, 1), 8);
        ring.set(2, 2);
        Due.is("a ring, two checks", ring.sure(15, 0), 2);
        Due.is("a ring, two checks, best", ring.sure(15, 1), 5);
        Due.is("a ring, two across, two checks", ring.sure(5, 1), 5);
        ring.shut(0, 3, 1);
        ring.set(2, 1);
        Due.is("a road is shut: a row", ring.sure(15, 0), 4);
        ring.undo();
        ring.undo();
        Due.is("undone", ring.sure(15, 0), 2);
        ring.place(0);
        Due.is("a fifth place", ring.sure(31, 0), 3);
        BlindHunts apart = Given.country("000", 0, 1);
        Due.is("three places, one road", apart.sure(7, 0), 3);
        apart.road(1, 2);
        Due.is("a second road", apart.sure(7, 0), 2);
        apart.road(0, 2);
        Due.is("a third road", apart.sure(7, 0), MISSING);
    }

    private static void sureByKinds() {
        Due.at("promise 11, kinds");
        BlindHunts two = Given.country("00", 0, 1);
        Due.is("restless", two.sure(3, 0), 2);
        Due.is("restless, best", two.sure(3, 1), 1);
        two.set(0, 1);
        Due.is("calm", two.sure(3, 0), MISSING);
        two.set(1, 2);
        Due.is("calm, moves are heard", two.sure(3, 0), 2);
        Due.is("calm, moves are heard, best", two.sure(3, 1), 1);
        Given.settings(two, 3, 0, 1);
        Due.is("shy", two.sure(3, 0), 2);
        Due.is("shy, best", two.sure(3, 1), 1);
        Given.settings(two, 2, 0, 1);
        Due.is("leaping", two.sure(3, 0), MISSING);
        Given.settings(two, 2, 3, 1);
        Due.is("leaping, alike roads", two.sure(3, 0), MISSING);
        BlindHunts colors = Given.settings(Given.country("01", 0, 1), 2, 1, 1);
        Due.is("colors are heard", colors.sure(3, 0), 2);
        Due.is("colors are heard, best", colors.sure(3, 1), 0);
        // With the middle and one end checked, a shy hare at one of the other ends stays there.
        BlindHunts star = Given.settings(Given.country("0000", 0, 1, 0, 2, 0, 3), 3, 0, 2);
        Due.is("shy on a star", star.sure(15, 0), 2);
        Due.is("shy on a star, best", star.sure(15, 1), 3);
    }

    private static void deaf() {
        Due.at("promise 12");
        BlindHunts x = Given.settings(Given.country("0120", 0, 1, 1, 2, 2, 3), 0, 1, 1);
        Due.is("deaf(15)", x.deaf(15), 4);
        Due.is("sure(15, 0)", x.sure(15, 0), 2);
        Due.is("deaf(0)", x.deaf(0), 0);
        Due.is("deaf(1)", x.deaf(1), 1);
        Due.is("deaf(16)", x.deaf(16), INVALID);
        Due.is("deaf(-1)", x.deaf(-1), INVALID);
        x.set(0, 1);
        Due.is("calm, deaf(15)", x.deaf(15), MISSING);
        Due.is("calm, sure(15, 0)", x.sure(15, 0) > 0 ? 1 : 0, 1);
        x.set(2, 2);
        Due.is("calm, two checks, deaf(15)", x.deaf(15), 3);
        x.shut(1, 2, 1);
        Due.is("two halves", x.deaf(15), 2);
        x.undo();
        Due.is("undone", x.deaf(15), 3);
    }

    private static void memory() {
        Due.at("promise 13");
        BlindHunts x = Given.row(4);
        Due.is("memory(15)", x.memory(15), 4);
        Due.is("memory(0)", x.memory(0), 0);
        Due.is("memory(8)", x.memory(8), 1);
        Due.is("memory(16)", x.memory(16), INVALID);
        Due.is("memory(-1)", x.memory(-1), INVALID);
        BlindHunts ring = Given.country("0123", 0, 1, 1, 2, 2, 3, 3, 0);
        Due.is("not for sure", ring.memory(15), MISSING);
        ring.set(1, 1);
        // Nothing is checked at first: each of the four places can be heard alone.
        Due.is("colors", ring.memory(15), 5);
        Due.is("colors, one place", ring.memory(4), 1);
        Due.is("colors, two places side by side", ring.memory(3), 5);
        Due.is("colors, two places across", ring.memory(5), 3);
        BlindHunts same = Given.settings(Given.country("0101", 0, 1, 1, 2, 2, 3, 3, 0), 0, 1, 2);
        // Each signal leaves two places across, which are checked at once.
        Due.is("two checks", same.memory(15), 3);
    }

    private static void beliefs() {
        Due.at("promise 14");
        BlindHunts none = new BlindHunts();
        Due.is("no places: 0", none.beliefs(0), 0);
        Due.is("no places: 1", none.beliefs(1), 0);
        Due.is("no places: 2", none.beliefs(2), 0);
        Due.is("no places: 3", none.beliefs(3), MISSING);
        Due.is("no places: 4", none.beliefs(4), 0);
        Due.is("beliefs(-1)", none.beliefs(-1), INVALID);
        Due.is("beliefs(5)", none.beliefs(5), INVALID);
        Due.is("beliefs(HIGH)", none.beliefs(HIGH), INVALID);
        BlindHunts x = Given.country("0000", 0, 1, 1, 2, 2, 3, 3, 0);
        Due.is("a ring: 0", x.beliefs(0), 15);
        Due.is("a ring: 1", x.beliefs(1), 4);
        Due.is("a ring: 2", x.beliefs(2), 1);
        Due.is("a ring: 3", x.beliefs(3), 1);
        Due.is("a ring: 4", x.beliefs(4), 4);
        x.set(2, 2);
        Due.is("two checks: 1", x.beliefs(1), 15);
        Due.is("two checks: 2", x.beliefs(2), 2);
        Due.is("two checks: 3", x.beliefs(3), 7);
        Due.is("two checks: 4", x.beliefs(4), 15);
        BlindHunts colors = Given.settings(Given.country("0123", 0, 1, 1, 2, 2, 3, 3, 0), 1, 1, 1);
        Due.is("colors: 1", colors.beliefs(1), 15);
        Due.is("colors: 2", colors.beliefs(2), 2);
        Due.is("colors: 3", colors.beliefs(3), 3);
        Due.is("colors: 4", colors.beliefs(4), 4);
    }

    private static void dangers() {
        Due.at("promise 15");
        // A triangle with a tail, and a place apart.
        BlindHunts x = Given.country("00000", 0, 1, 1, 2, 2, 0, 2, 3);
        Due.is("dangers(0)", x.dangers(0), 0);
        Due.is("dangers(1)", x.dangers(1), 2 | 4);
        Due.is("dangers(16)", x.dangers(16), 0);
        Due.is("dangers(17), 3 is no danger: it goes to 2 alone", x.dangers(17), 2 | 4);
        Due.is("dangers(9)", x.dangers(9), 2 | 4);
        Due.is("dangers(3), not for sure", x.dangers(3), IMPOSSIBLE);
        Due.is("dangers(32)", x.dangers(32), INVALID);
        Due.is("dangers(-1)", x.dangers(-1), INVALID);
        x.shut(0, 2, 1);
        Due.is("a row", x.dangers(1), 0);
        Due.is("a row, all of it: the place apart is checked once more", x.dangers(15), 0);
        x.set(2, 2);
        Due.is("a row, two checks", x.dangers(15), 0);
        x.undo();
        x.undo();
        Due.is("undone", x.dangers(1), 2 | 4);
    }

    private static void ways() {
        Due.at("promise 16");
        BlindHunts x = Given.row(3);
        x.believe(3);
        Due.is("ways(0, 0)", x.ways(0, 0), 1);
        Due.is("ways(0, 2)", x.ways(0, 2), 0);
        Due.is("ways(1, 1)", x.ways(1, 1), 1);
        Due.is("ways(1, 0)", x.ways(1, 0), 1);
        Due.is("ways(2, 1)", x.ways(2, 1), 2);
        Due.is("ways(3, 1)", x.ways(3, 1), 2);
        Due.is("ways(40, 1)", x.ways(40, 1), 1L << 20);
        Due.is("ways(41, 1)", x.ways(41, 1), INVALID);
        Due.is("ways(-1, 1)", x.ways(-1, 1), INVALID);
        Due.is("ways(1, 3)", x.ways(1, 3), INVALID);
        Due.is("ways(1, -1)", x.ways(1, -1), INVALID);
        Due.is("ways(LOW, HIGH)", x.ways(LOW, HIGH), INVALID);
        x.set(0, 3);
        Due.is("shy, nothing is checked", x.ways(1, 1), 2);
        x.set(0, 2);
        Due.is("leaping: the place between does not matter", x.ways(1, 2), 2);
        Due.is("leaping, from 0 and 1 to 0", x.ways(1, 0), 2);
        x.check(1, 0);
        x.set(0, 0);
        Due.is("the belief behind rounds", x.ways(0, 2), 1);
        x.believe(0);
        Due.is("empty belief", x.ways(40, 1), 0);
    }

    private static void waysLimit() {
        Due.at("promise 16, limit");
        // Two places and a calm hare: from one place there are 2 to the (n - 1) ways to each.
        BlindHunts x = Given.settings(Given.country("0000000", 0, 1, 0, 2, 0, 3, 1, 2, 1, 3, 2, 3), 1, 0, 1);
        x.believe(1);
        Due.is("4 to the 31", x.ways(32, 0), 1L << 62);
        Due.is("4 to the 32", x.ways(33, 0), LIMIT);
        x.believe(3);
        Due.is("2 to the 63 is one too many", x.ways(32, 0), LIMIT);
        x.believe(113);
        Due.is("a place apart counts its own alone", x.ways(40, 5), 1);
        Due.is("the ring of all is over the limit", x.ways(40, 3), LIMIT);
        x.believe(112);
        Due.is("none come here", x.ways(40, 0), 0);
    }

    private static void met() {
        Due.at("promise 17");
        BlindHunts x = Given.row(3);
        x.believe(3);
        Due.is("met(0, 1, 0)", x.met(0, 1, 0), 1);
        Due.is("met(0, 1, 1)", x.met(0, 1, 1), 2);
        Due.is("met(1, 0, 0)", x.met(1, 0, 0), 2);
        Due.is("met(1, 0, 1)", x.met(1, 0, 1), 3);
        Due.is("met(1, 2, 0)", x.met(1, 2, 0), 1);
        Due.is("met(2, 2, 0)", x.met(2, 2, 0), 2);
        Due.is("met(2, 2, 1)", x.met(2, 2, 1), 4);
        Due.is("met(15, 1, 0)", x.met(15, 1, 0), x.met(15, 1, 1));
        Due.is("met(15, 1, 1)", x.met(15, 1, 1), 256 + 128);
        Due.is("met(16, 1, 0)", x.met(16, 1, 0), INVALID);
        Due.is("met(-1, 1, 0)", x.met(-1, 1, 0), INVALID);
        Due.is("met(1, 3, 0)", x.met(1, 3, 0), INVALID);
        Due.is("met(1, -1, 0)", x.met(1, -1, 0), INVALID);
        Due.is("met(1, 1, 2)", x.met(1, 1, 2), INVALID);
        Due.is("met(1, 1, -1)", x.met(1, 1, -1), INVALID);
        x.believe(0);
        Due.is("empty belief", x.met(5, 1, 1), 0);
    }

    private static void count() {
        Due.at("promise 18");
        BlindHunts x = Given.settings(Given.country("012", 0, 1, 1, 2), 1, 3, 2);
        x.shut(0, 1, 1);
        x.believe(7);
        x.check(1, 1);
        Given.write(x, "0:0");
        long[] want = {3, 2, 1, 6, 1, 0, 4, 3};
        for (int what = 0; what < want.length; what++) {
            Due.is("count(" + what + ")", x.count(what), want[what]);
        }
        Due.is("count(20)", x.count(20), 1);
        Due.is("count(21)", x.count(21), 3);
        Due.is("count(22)", x.count(22), 2);
        for (int what : new int[] {-1, 8, 19, 23, LOW, HIGH}) {
            Due.is("count(" + what + ")", x.count(what), INVALID);
        }
        x.check(6, 0);
        Due.is("caught", x.count(5), 1);
        Due.is("rounds", x.count(4), 2);
        x.place(0);
        Due.is("caught, a place is added", x.count(5), 1);
        x.believe(1);
        Due.is("believed anew", x.count(5), 0);
        x.undo();
        Due.is("undone", x.count(5), 1);
        Due.is("rounds, undone", x.count(4), 2);
    }

    private static void undo() {
        Due.at("promise 19");
        BlindHunts x = new BlindHunts();
        Due.is("nothing is there", x.undo(), IMPOSSIBLE);
        x.place(1);
        x.place(2);
        x.road(0, 1);
        Given.write(x, "1:0;");
        Due.is("undo the road", x.undo(), 2);
        Due.is("roads", x.count(1), 0);
        Due.is("the text stays", x.count(7), 4);
        Due.is("undo a place", x.undo(), 1);
        Due.is("places", x.count(0), 1);
        Due.is("color", x.placeOf(0, 0), 1);
        Due.is("no such place", x.placeOf(1, 0), INVALID);
        Due.is("undo the other place", x.undo(), 0);
        Due.is("nothing is left", x.undo(), IMPOSSIBLE);
        Due.is("place", x.place(3), 0);
        Due.is("color", x.placeOf(0, 0), 3);
        for (int changes = 1; changes <= 6; changes++) {
            undoAll(changes);
        }
    }

    private static void undoAll(int changes) {
        BlindHunts x = new BlindHunts();
        for (int i = 0; i < changes; i++) {
            x.place(0);
            Due.is("states behind " + i, x.count(6), Math.min(i + 1, 4));
        }
        for (int i = 1; i <= Math.min(changes, 4); i++) {
            Due.is("undo " + i + " of " + changes, x.undo(), Math.min(changes, 4) - i);
            Due.is("places", x.count(0), changes - i);
        }
        Due.is("undo once more", x.undo(), IMPOSSIBLE);
    }

    private static void history() {
        Due.at("promise 19, history");
        BlindHunts x = Given.row(3);
        Given.settings(x, 1, 2, 2);
        x.believe(7);
        x.check(1, 1);
        x.check(9, 0);
        x.road(0, 1);
        x.shut(0, 2, 1);
        x.set(2, 3);
        x.place(4);
        x.believe(8);
        Due.is("calls with errors are no changes", x.count(6), 4);
        Due.is("undo the check", x.undo(), 3);
        Due.is("belief", x.count(3), 7);
        Due.is("undo believe", x.undo(), 2);
        Due.is("belief", x.count(3), 0);
        Due.is("undo the budget", x.undo(), 1);
        Due.is("budget", x.count(22), 1);
        Due.is("undo the signals", x.undo(), 0);
        Due.is("signals", x.count(21), 0);
        Due.is("the kind of the hare was dropped", x.undo(), IMPOSSIBLE);
        Due.is("hare", x.count(20), 1);
        Due.is("sure, undone", x.sure(7, 0), MISSING);
        x.shut(0, 1, 1);
        Due.is("undo shut", x.undo(), 0);
        Due.is("open roads", x.count(2), 2);
        for (int i = 0; i < 9; i++) {
            x.believe(i & 7);
        }
        Due.is("four at most", x.count(6), 4);
        for (int i = 3; i >= 0; i--) {
            Due.is("undo", x.undo(), i);
            Due.is("belief", x.count(3), i == 3 ? 7 : i + 4);
        }
    }

    private static void type() {
        Due.at("promise 20");
        BlindHunts x = new BlindHunts();
        Due.is("type(31)", x.type(31), INVALID);
        Due.is("type(127)", x.type(127), INVALID);
        Due.is("type(LOW)", x.type(LOW), INVALID);
        Due.is("type(65536 + 48)", x.type(65536 + 48), INVALID);
        for (int i = 1; i <= 60; i++) {
            Due.is("sign " + i, x.type(i == 1 ? 126 : 32), i);
        }
        Due.is("sign 61", x.type(32), LIMIT);
        Due.is("sign 61, out of range", x.type(31), INVALID);
        Due.is("count(7)", x.count(7), 60);
        Due.is("no change", x.count(6), 0);
        Due.is("fault(1)", x.fault(1), 1);
    }

    private static void clearText() {
        Due.at("promise 21");
        BlindHunts x = Given.row(2);
        x.believe(3);
        int states = x.count(6);
        Due.is("empty", x.clearText(), 0);
        Given.write(x, "0:0;9");
        Due.is("clearText()", x.clearText(), 5);
        Due.is("count(7)", x.count(7), 0);
        Due.is("again", x.clearText(), 0);
        Due.is("no fault", x.fault(0), MISSING);
        Due.is("no change", x.count(6), states);
        Due.is("type", x.type('1'), 1);
        Due.is("an unfinished round", x.fault(1), 1);
    }

    private static void faultIs(BlindHunts x, String text, int position, int reason) {
        Given.write(x, text);
        Due.is("fault(0) of " + text, x.fault(0), position);
        Due.is("fault(1) of " + text, x.fault(1), reason);
        if (reason != MISSING) {
            Due.is("play() of " + text, x.play(), IMPOSSIBLE);
        }
    }

    private static void faultOfForm() {
        Due.at("promise 22, form");
        BlindHunts x = Given.settings(Given.row(3), 1, 0, 2);
        x.believe(7);
        Due.is("fault(-1)", x.fault(-1), INVALID);
        Due.is("fault(2)", x.fault(2), INVALID);
        faultIs(x, "", MISSING, MISSING);
        String[] wrong = {"0", ":", ":0", "0:0", "0:;", "0;", ";", "012:0;", "0:00;", "0:0:", "0 :0;", " ", "a:0;", "0:b;", "-1:0;", "/:0;", "0:/;", "9", "::0;", "0::;"};
        for (String text : wrong) {
            faultIs(x, text, 0, 1);
            faultIs(x, ":0;" + text, 3, 1);
            faultIs(x, "01:0;:0;" + text, 8, 1);
        }
        faultIs(x, "9:0;012", 0, 2);
        faultIs(x, "0:0;", MISSING, MISSING);
        faultIs(x, "0:0", 0, 1);
        faultIs(x, ":0;:0;:0;:0;:0;:0;:0;:0;:0;:0;:0;:0;:0;:0;:0;:0;:0;:0;:0;:0;", MISSING, MISSING);
        faultIs(x, ":0;:0;:0;:0;:0;:0;:0;:0;:0;:0;:0;:0;:0;:0;:0;:0;:0;:0;:0;0:0", 57, 1);
    }

    private static void faultOfPlaces() {
        Due.at("promise 22, places");
        BlindHunts x = Given.settings(Given.row(3), 1, 0, 1);
        x.believe(7);
        faultIs(x, "2:0;", MISSING, MISSING);
        faultIs(x, "3:0;", 0, 2);
        faultIs(x, "9:9;", 0, 2);
        faultIs(x, "01:0;", 0, 2);
        faultIs(x, ":0;11:0;", 3, 2);
        x.set(2, 2);
        faultIs(x, "01:0;", MISSING, MISSING);
        faultIs(x, "10:0;", MISSING, MISSING);
        faultIs(x, "11:0;", 0, 2);
        faultIs(x, "03:0;", 0, 2);
        faultIs(x, "30:0;", 0, 2);
        faultIs(x, "1:0;22:7;", 4, 2);
        x.place(0);
        faultIs(x, "03:0;", MISSING, MISSING);
        x.believe(0);
        faultIs(x, "33:0;", 0, 2);
    }

    private static void faultOfRound() {
        Due.at("promise 22, rounds");
        BlindHunts x = Given.settings(Given.country("012", 0, 1, 1, 2), 0, 1, 1);
        faultIs(x, "0:0;", 0, 3);
        x.believe(7);
        faultIs(x, "0:0;", MISSING, MISSING);
        faultIs(x, "0:3;", 0, 3);
        faultIs(x, "0:4;", 0, 3);
        faultIs(x, "0:9;", 0, 3);
        faultIs(x, "1:1;1:0;", MISSING, MISSING);
        faultIs(x, "1:1;1:3;", MISSING, MISSING);
        faultIs(x, "1:1;1:4;", 4, 3);
        faultIs(x, "1:1;1:0;:0;", 8, 3);
        faultIs(x, ":1;:1;", 3, 3);
        faultIs(x, ":1;:0;:2;", 6, 3);
        faultIs(x, ":1;:0;:1;", MISSING, MISSING);
        Due.is("nothing was made", x.count(4), 0);
    }

    private static void play() {
        Due.at("promise 23");
        BlindHunts x = Given.settings(Given.country("012", 0, 1, 1, 2), 0, 1, 1);
        x.believe(7);
        Given.write(x, ":1;0:2;2:3;");
        Due.is("play()", x.play(), 3);
        Due.is("the text stays", x.count(7), 11);
        Due.is("one change", x.count(6), 4);
        Due.is("rounds", x.count(4), 3);
        Due.is("caught", x.count(5), 1);
        Due.is("latest: places", x.roundOf(0, 0), 4);
        Due.is("latest: signal", x.roundOf(0, 1), 3);
        Due.is("before: places", x.roundOf(1, 0), 1);
        Due.is("before: belief", x.roundOf(1, 2), 4);
        Due.is("first: signal", x.roundOf(2, 1), 1);
        Due.is("play() again, it is caught", x.play(), IMPOSSIBLE);
        Due.is("undo()", x.undo(), 3);
        Due.is("belief, undone", x.count(3), 7);
        Due.is("rounds, undone", x.count(4), 0);
        Given.write(x, ":1;:1;");
        Due.is("play() of a fault", x.play(), IMPOSSIBLE);
        Due.is("belief, not played", x.count(3), 7);
        BlindHunts none = new BlindHunts();
        Due.is("no rounds", none.play(), 0);
        Due.is("a change", none.count(6), 1);
        Due.is("undo()", none.undo(), 0);
        x.check(0, 1);
        Given.write(x, ":0;");
        Due.is("play() goes on", x.play(), 1);
        Due.is("rounds", x.count(4), 2);
    }

    private static void manyRounds() {
        Due.at("many rounds");
        BlindHunts x = Given.settings(Given.row(3), 1, 0, 1);
        x.believe(7);
        Given.write(x, ":0;0:0;1:0;2:0;:0;0:0;1:0;2:0;:0;0:0;1:0;2:0;:0;0:0;1:0;");
        Due.is("play()", x.play(), 15);
        Due.is("play() once more", x.play(), 15);
        Due.is("rounds", x.count(4), 30);
        int[] places = {2, 1, 0, 4, 2, 1, 0, 4};
        for (int i = 0; i < 8; i++) {
            Due.is("round " + i, x.roundOf(i, 0), places[i]);
        }
        x.check(4, 0);
        Due.is("latest", x.roundOf(0, 0), 4);
        Due.is("of the text", x.roundOf(1, 0), 2);
        x.undo();
        Due.is("undone: latest", x.roundOf(0, 0), 2);
        Due.is("undone: the eighth comes back", x.roundOf(7, 0), 4);
        x.undo();
        Due.is("undone: rounds", x.count(4), 15);
        Due.is("undone: latest of the first text", x.roundOf(0, 0), 2);
    }
}

/** Runs of calls, answered by the class and by the model. */
final class ModelTest {
    private static final int RUNS = 500;
    /** Nothing is promised of an object behind 512 calls; the last ones are for the look at the whole state. */
    private static final int CALLS = 450;
    private static final int[] ODD = {-1, 2, 3, 5, 16, 127, Integer.MIN_VALUE, Integer.MAX_VALUE, 4, 7, 8, 19, 23, 128, -2, 41, 60, 1000, 65536};

    private final Draws draws;
    private final BlindHunts x = new BlindHunts();
    private final Model model = new Model();

    private ModelTest(int run) {
        draws = new Draws(run);
    }

    public static void main(String[] args) {
        for (int run = 0; run < RUNS && Due.wrong() == 0; run++) {
            new ModelTest(run).go(run);
        }
        Due.end("ModelTest");
    }

    /** A row of numbers that is the same in each run of the test. */
    private static final class Draws {
        private long at;

        Draws(int seed) {
            at = seed * 0x9E3779B97F4A7C15L + 12345;
        }

        int below(int bound) {
            at = at * 6364136223846793005L + 1442695040888963407L;
            return (int) ((at >>> 33) % bound);
        }

        boolean once(int of) {
            return below(of) == 0;
        }
    }

    private void go(int run) {
        Due.at("run " + run);
        build();
        int first = Due.asked();
        build();
        while (Due.asked() - first < CALLS) {
            call();
        }
        look();
    }

    private void build() {
        int places = draws.below(8);
        int colors = 1 + draws.below(4);
        for (int i = 0; i < places; i++) {
            int color = draws.below(colors);
            Due.is("place(" + color + ")", x.place(color), model.place(color));
        }
        int dense = 1 + draws.below(6);
        for (int one = 0; one < places; one++) {
            for (int other = one + 1; other < places; other++) {
                if (draws.once(dense)) {
                    Due.is("road(" + one + ", " + other + ")", x.road(one, other), model.road(one, other));
                }
            }
        }
        for (int what = 0; what < 3; what++) {
            int value = draws.below(4);
            Due.is("set(" + what + ", " + value + ")", x.set(what, value), model.set(what, value));
        }
        int all = (1 << places) - 1;
        Due.is("believe(" + all + ")", x.believe(all), model.believe(all));
    }

    private int places() {
        return model.count(0);
    }

    private int odd() {
        return ODD[draws.below(ODD.length)];
    }

    private int number(int bound) {
        return draws.once(25) || bound <= 0 ? odd() : draws.below(bound);
    }

    private int placeNumber() {
        return number(places());
    }

    private int setNumber() {
        return number(1 << places());
    }

    private int checkNumber() {
        int set = 0;
        for (int i = draws.below(3); i > 0 && places() > 0; i--) {
            set |= 1 << draws.below(places());
        }
        return draws.once(25) ? setNumber() : set;
    }

    private void call() {
        switch (draws.below(16)) {
            case 0 -> callCountry();
            case 1, 2, 3 -> callRounds();
            case 4, 5, 6 -> callTold();
            case 7, 8, 9, 10, 11, 12 -> callWhatWouldBe();
            default -> callText();
        }
    }

    private void callCountry() {
        int one = placeNumber();
        int other = placeNumber();
        int value = number(4);
        switch (draws.below(8)) {
            case 0 -> Due.is("place(" + value + ")", x.place(value), model.place(value));
            case 1 -> Due.is("road(" + one + ", " + other + ")", x.road(one, other), model.road(one, other));
            case 2, 3, 4 -> {
                int is = number(2);
                Due.is("shut(" + one + ", " + other + ", " + is + ")", x.shut(one, other, is), model.shut(one, other, is));
            }
            case 5 -> Due.is("undo()", x.undo(), model.undo());
            default -> {
                int what = number(3);
                Due.is("set(" + what + ", " + value + ")", x.set(what, value), model.set(what, value));
            }
        }
    }

    private void callRounds() {
        int set = setNumber();
        int places = checkNumber();
        int signal = number(4);
        switch (draws.below(9)) {
            case 0 -> Due.is("believe(" + set + ")", x.believe(set), model.believe(set));
            case 1 -> Due.is("undo()", x.undo(), model.undo());
            default -> Due.is("check(" + places + ", " + signal + ")", x.check(places, signal), model.check(places, signal));
        }
    }

    private void callTold() {
        int place = placeNumber();
        switch (draws.below(4)) {
            case 0 -> {
                int round = number(8);
                int what = number(3);
                Due.is("roundOf(" + round + ", " + what + ")", x.roundOf(round, what), model.roundOf(round, what));
            }
            case 1 -> {
                int what = number(5);
                Due.is("placeOf(" + place + ", " + what + ")", x.placeOf(place, what), model.placeOf(place, what));
            }
            case 2 -> {
                int what = draws.once(3) ? 20 + draws.below(3) : number(8);
                Due.is("count(" + what + ")", x.count(what), model.count(what));
            }
            default -> {
                int what = number(5);
                Due.is("beliefs(" + what + ")", x.beliefs(what), model.beliefs(what));
            }
        }
    }

    private void callWhatWouldBe() {
        int set = setNumber();
        int place = placeNumber();
        switch (draws.below(8)) {
            case 0, 1 -> {
                int checked = setNumber();
                int signal = draws.once(4) ? -1 : number(4);
                Due.is("behind(" + set + ", " + checked + ", " + signal + ")", x.behind(set, checked, signal), model.behind(set, checked, signal));
            }
            case 2 -> {
                int what = number(2);
                Due.is("sure(" + set + ", " + what + ")", x.sure(set, what), model.sure(set, what));
            }
            case 3 -> Due.is("deaf(" + set + ")", x.deaf(set), model.deaf(set));
            case 4 -> Due.is("memory(" + set + ")", x.memory(set), model.memory(set));
            case 5 -> Due.is("dangers(" + set + ")", x.dangers(set), model.dangers(set));
            case 6 -> {
                int moves = number(41);
                Due.is("ways(" + moves + ", " + place + ")", x.ways(moves, place), model.ways(moves, place));
            }
            default -> {
                int moves = number(16);
                int part = number(2);
                Due.is("met(" + moves + ", " + place + ", " + part + ")", x.met(moves, place, part), model.met(moves, place, part));
            }
        }
    }

    private void callText() {
        switch (draws.below(5)) {
            case 0 -> {
                if (draws.once(3)) {
                    typeRounds(1 + draws.below(2));
                }
            }
            case 1 -> {
                if (draws.once(4)) {
                    Due.is("clearText()", x.clearText(), model.clearText());
                    typeRounds(1 + draws.below(4));
                }
            }
            case 2 -> {
                if (draws.once(6)) {
                    type(draws.once(3) ? odd() : 30 + draws.below(99));
                }
            }
            case 3 -> {
                Due.is("fault(0)", x.fault(0), model.fault(0));
                Due.is("fault(1)", x.fault(1), model.fault(1));
            }
            default -> Due.is("play()", x.play(), model.play());
        }
    }

    private void typeRounds(int rounds) {
        for (int i = 0; i < rounds; i++) {
            for (int digits = draws.below(draws.once(12) ? 4 : 3); digits > 0; digits--) {
                type('0' + draws.below(draws.once(12) || places() == 0 ? 10 : places()));
            }
            if (!draws.once(60)) {
                type(':');
            }
            type('0' + (draws.once(12) ? draws.below(10) : draws.once(2) ? 0 : draws.below(3)));
            if (!draws.once(60)) {
                type(';');
            }
        }
    }

    private void type(int character) {
        Due.is("type(" + character + ")", x.type(character), model.type(character));
    }

    private void look() {
        for (int what = -1; what <= 23; what++) {
            if (what <= 8 || what >= 19) {
                Due.is("count(" + what + ")", x.count(what), model.count(what));
            }
        }
        for (int what = -1; what <= 5; what++) {
            int place = placeNumber();
            Due.is("beliefs(" + what + ")", x.beliefs(what), model.beliefs(what));
            Due.is("placeOf(" + place + ", " + what + ")", x.placeOf(place, what), model.placeOf(place, what));
        }
        for (int round = -1; round <= 8; round++) {
            int what = number(3);
            Due.is("roundOf(" + round + ", " + what + ")", x.roundOf(round, what), model.roundOf(round, what));
        }
    }
}

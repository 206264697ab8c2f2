/** Counts and prints the answers that are not the ones that are due. */
final class Due {
    private static int asked;
    private static int wrong;
    private static int wrongHere;
    private static String place = "";

    private Due() {
    }

    /** Names what the next answers belong to. */
    static void at(String where) {
        place = where;
        wrongHere = 0;
    }

    static void is(String call, long got, long want) {
        asked++;
        if (got != want) {
            wrong++;
            wrongHere++;
            // The first ones of each place tell enough.
            if (wrongHere <= 5) {
                System.out.println(place + ": " + call + " answered " + got + ", due is " + want);
            }
        }
    }

    static int asked() {
        return asked;
    }

    static int wrong() {
        return wrong;
    }

    /** Ends the test: with exit code 1 if an answer was wrong. */
    static void end(String test) {
        System.out.println(test + ": " + asked + " answers, " + wrong + " not as due");
        System.exit(wrong == 0 ? 0 : 1);
    }
}

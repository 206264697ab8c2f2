/** Objects that tests begin with. */
final class Given {
    private Given() {
    }

    /** Places with these colors and roads, told as pairs of places. */
    static BlindHunts country(String colors, int... ends) {
        BlindHunts x = new BlindHunts();
        for (int i = 0; i < colors.length(); i++) {
            x.place(colors.charAt(i) - '0');
        }
        for (int i = 0; i + 1 < ends.length; i += 2) {
            x.road(ends[i], ends[i + 1]);
        }
        return x;
    }

    /** Places of color 0, each with a road to the next one. */
    static BlindHunts row(int places) {
        BlindHunts x = country("0000000".substring(0, places));
        for (int i = 0; i + 1 < places; i++) {
            x.road(i, i + 1);
        }
        return x;
    }

    /** Places of color 0, each with a road to each other one. */
    static BlindHunts complete(int places) {
        BlindHunts x = country("0000000".substring(0, places));
        for (int one = 0; one < places; one++) {
            for (int other = one + 1; other < places; other++) {
                x.road(one, other);
            }
        }
        return x;
    }

    /** Four places of colors 0 to 3 in a ring. */
    static BlindHunts ring() {
        return country("0123", 0, 1, 1, 2, 2, 3, 3, 0);
    }

    static BlindHunts settings(BlindHunts x, int hare, int signals, int budget) {
        x.set(0, hare);
        x.set(1, signals);
        x.set(2, budget);
        return x;
    }

    static BlindHunts believing(BlindHunts x, int belief) {
        x.believe(belief);
        return x;
    }

    /** Makes this the text. */
    static BlindHunts write(BlindHunts x, String text) {
        x.clearText();
        for (int i = 0; i < text.length(); i++) {
            x.type(text.charAt(i));
        }
        return x;
    }

    /** Something of everything: a shut road, other settings than at first, rounds, a text, and a full history. */
    static BlindHunts busy() {
        BlindHunts x = settings(country("3120", 0, 1, 1, 2, 2, 3), 1, 2, 2);
        x.shut(2, 3, 1);
        x.believe(15);
        x.check(1, 0);
        x.check(8, 1);
        return write(x, "01:1;:1;2:0;");
    }

    /** A busy one whose seven places are all that there can be. */
    static BlindHunts full() {
        BlindHunts x = settings(country("0123012", 0, 1, 1, 2, 4, 5), 3, 1, 1);
        x.believe(127);
        x.check(1, 1);
        return write(x, ":1;");
    }

    /** A hare that was caught for sure by the second of two rounds. */
    static BlindHunts caught() {
        BlindHunts x = believing(row(3), 7);
        x.check(2, 0);
        x.check(2, 3);
        return x;
    }
}

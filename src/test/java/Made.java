/** Objects in the states that the tests begin from; none uses up its 512 calls. */
final class Made {
    private Made() {
    }

    /** Feet 0, 1, .. at the places x, y, x, y, .. */
    static StandTests withFeet(long... places) {
        StandTests s = new StandTests();
        for (int i = 0; i < places.length; i += 2) {
            s.foot(places[i], places[i + 1]);
        }
        return s;
    }

    /** Feet 0 .. 3 at the corners of 0 .. wide, 0 .. deep, against the clock. */
    static StandTests table(long wide, long deep) {
        return withFeet(0, 0, wide, 0, wide, deep, 0, deep);
    }

    /** A table of 10 by 10 with so many parts of a gram each in its middle. */
    static StandTests tableWithParts(int count) {
        StandTests s = table(10, 10);
        for (int i = 0; i < count; i++) {
            s.part(5, 5, 0, 1);
        }
        return s;
    }

    /** As tableWithParts, the first parts being drawers that go out by 1. */
    static StandTests tableWithDrawers(int parts, int drawers) {
        StandTests s = tableWithParts(parts);
        for (int i = 0; i < drawers; i++) {
            s.drawer(i, 1);
        }
        return s;
    }

    static void write(StandTests s, String text) {
        for (int i = 0; i < text.length(); i++) {
            Check.same("unit " + i + " of " + text, s.unit(text.charAt(i)), true);
        }
    }

    static int read(StandTests s, String text) {
        write(s, text);
        return s.rules();
    }

    /** So many tests, the k-th one with k grams: "0,0,0,0;0,0,1,0;..". */
    static String tests(int count) {
        StringBuilder text = new StringBuilder();
        for (int k = 0; k < count; k++) {
            text.append(k == 0 ? "" : ";").append("0,0,").append(k).append(",0");
        }
        return text.toString();
    }
}

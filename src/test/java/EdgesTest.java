/**
 * The boundary cases of each promise: the last value that is allowed and the first that
 * is not, on both ends; nothing there yet; one more than fits.
 */
public final class EdgesTest {
    private static final int NONE = StandTests.NONE;
    private static final long FAR = 100000;
    private static final long HEAVY = 1000000;

    /** A call on an object of its own, of one number whose range is asked. */
    private interface OfLong {
        void run(long v);
    }

    private interface OfInt {
        void run(int v);
    }

    private interface OfDouble {
        void run(double v);
    }

    private EdgesTest() {
    }

    public static void main(String[] args) {
        newObjectHasNothing();
        newObjectsShareNothing();
        partNumbers();
        partsAreSixteen();
        partsAtTheEdges();
        footNumbers();
        feetAreTwelve();
        drawerParts();
        drawerNumbers();
        drawersAreEight();
        drawerOnce();
        personNumbers();
        personIsAnother();
        centreIndices();
        centreWithoutGrams();
        centreInLowestTerms();
        centreWithDrawersShut();
        centreAtTheEdges();
        sideIndices();
        tipsDrawers();
        momentIndices();
        momentWithDrawersShut();
        momentAtTheEdges();
        mostFromNoneToAll();
        unitCharacters();
        unitsAreTwoHundred();
        unitHasRoomAgain();
        rulesOfNothing();
        rulesEmptyTheText();
        rulesKeepTheTests();
        rulesTellThePlace();
        rulesTakeAnyNumber();
        testIndices();
        testWhat();
        testDrawersOpen();
        testAtTheEdges();
        anchorOfTests();
        anchorIsNotOfThePerson();
        wobbleHeights();
        wobbleFeet();
        wobblePlane();
        wobbleSize();
        bendRanges();
        bendAtTheEdges();
        bendFromLeftToRight();
        creepYears();
        gapEdges();
        Check.done("EdgesTest");
    }

    private static void longEdges(String what, long least, long greatest, OfLong call) {
        for (long good : new long[] {least, least + 1, greatest - 1, greatest}) {
            Check.sameText(what + " " + good, Check.outcome(() -> call.run(good)), "nothing");
        }
        long[] outside = {least - 1, greatest + 1, Long.MIN_VALUE, Long.MAX_VALUE, Integer.MIN_VALUE - 1L,
            Integer.MAX_VALUE + 1L, (1L << 32) + least, (1L << 32) + greatest, greatest - (1L << 32)};
        for (long bad : outside) {
            Check.badArgument(what + " " + bad, () -> call.run(bad));
        }
    }

    private static void intEdges(String what, int least, int greatest, String exception, OfInt call) {
        Check.sameText(what + " " + least, Check.outcome(() -> call.run(least)), "nothing");
        Check.sameText(what + " " + greatest, Check.outcome(() -> call.run(greatest)), "nothing");
        int[] outside = {least - 1, greatest + 1, Integer.MIN_VALUE, Integer.MAX_VALUE, least - 65536, greatest + 65536,
            greatest + 256};
        for (int bad : outside) {
            Check.sameText(what + " " + bad, Check.outcome(() -> call.run(bad)), exception);
        }
    }

    private static void doubleEdges(String what, double least, double greatest, OfDouble call) {
        for (double good : new double[] {least, Math.nextUp(least), Math.nextDown(greatest), greatest}) {
            Check.sameText(what + " " + good, Check.outcome(() -> call.run(good)), "nothing");
        }
        double[] outside = {Math.nextDown(least), Math.nextUp(greatest), -greatest, -1, 1e300, -1e300, Double.NaN,
            Double.POSITIVE_INFINITY, Double.NEGATIVE_INFINITY};
        for (double bad : outside) {
            Check.badArgument(what + " " + bad, () -> call.run(bad));
        }
    }

    private static void fraction(String what, StandTests s, int axis, long numerator, long denominator) {
        Check.same("numerator " + what, s.centre(axis, 0), numerator);
        Check.same("denominator " + what, s.centre(axis, 1), denominator);
    }

    // Promise 1: "No part, foot or drawer; no PERSON; no tests."
    private static void newObjectHasNothing() {
        StandTests s = new StandTests();
        Check.badIndex("no part", () -> s.drawer(0, 1));
        Check.badState("no foot: no side", () -> s.side(0));
        Check.badState("no foot: no anchor", () -> s.anchor());
        Check.badState("no foot: no wobble", () -> s.wobble(0, 0, 0, 0));
        for (int what = 0; what <= 2; what++) {
            int asked = what;
            Check.badIndex("no test, what " + what, () -> s.test(0, asked));
        }
        for (int part2 = 0; part2 <= 1; part2++) {
            int asked = part2;
            Check.badState("no grams, part2 " + part2, () -> s.centre(0, asked));
        }
        Check.same("no text", s.rules(), -1);
        Check.same("all 0 is the same as no person", s.person(0, 0, 0), false);
        StandTests table = Made.table(10, 10);
        Check.same("no drawer to open", table.most(), 0);
        Check.badArgument("no drawer to be open", () -> table.tips(1));
        Check.same("no person's moment", table.moment(0, 1), 0);
        Check.same("no test to tip in", table.anchor(), false);
        table.part(5, 5, 0, 0);
        Check.badState("no person's grams", () -> table.centre(0, 0));
    }

    // Promise 1
    private static void newObjectsShareNothing() {
        StandTests used = Made.tableWithDrawers(16, 8);
        used.person(-5, -5, 97);
        Made.read(used, Made.tests(12));
        Made.write(used, "1,2,3,4");
        newObjectHasNothing();
        StandTests s = new StandTests();
        Check.same("the first part of a second object", s.part(1, 1, 1, 1), 0);
        Check.same("the parts of the first one", used.centre(0, 1), 113);
        Check.same("the text of the first one", used.rules(), 1);
    }

    // Promise 2: "a place is not -100000 .. 100000, or grams not 0 .. 1000000"
    private static void partNumbers() {
        longEdges("part x", -FAR, FAR, v -> new StandTests().part(v, 0, 0, 1));
        longEdges("part y", -FAR, FAR, v -> new StandTests().part(0, v, 0, 1));
        longEdges("part z", -FAR, FAR, v -> new StandTests().part(0, 0, v, 1));
        longEdges("part grams", 0, HEAVY, v -> new StandTests().part(0, 0, 0, v));
    }

    // Promise 2: "A part more: its number. IllegalStateException: there are 16"
    private static void partsAreSixteen() {
        StandTests s = new StandTests();
        for (int i = 0; i < 16; i++) {
            Check.same("part " + i, s.part(i, 0, 0, i % 2), i);
        }
        Check.badState("part 16", () -> s.part(0, 0, 0, 0));
        Check.badState("part 16, again", () -> s.part(1, 1, 1, 1));
        fraction("of the sixteen", s, 0, 8, 1);
        Check.same("the last part is there", s.drawer(15, 1), true);
        Check.badIndex("there is no part 16", () -> s.drawer(16, 1));
    }

    // Promise 2: the numbers at the edges are kept as they are told.
    private static void partsAtTheEdges() {
        StandTests s = new StandTests();
        s.part(FAR, -FAR, FAR, HEAVY);
        fraction("x", s, 0, FAR, 1);
        fraction("y", s, 1, -FAR, 1);
        fraction("z", s, 2, FAR, 1);
        s.part(-FAR, FAR, -FAR, HEAVY);
        s.part(1, 2, 3, 1);
        fraction("x of three", s, 0, 1, 2 * HEAVY + 1);
        fraction("y of three", s, 1, 2, 2 * HEAVY + 1);
        fraction("z of three", s, 2, 1, 666667);
    }

    // Promise 3: "a place is not -100000 .. 100000"
    private static void footNumbers() {
        longEdges("foot x", -FAR, FAR, v -> new StandTests().foot(v, 0));
        longEdges("foot y", -FAR, FAR, v -> new StandTests().foot(0, v));
        StandTests s = Made.withFeet(-FAR, -FAR, FAR, -FAR, FAR, FAR);
        s.part(-FAR, FAR, 0, 1);
        Check.same("the feet at the edges bear it so", s.moment(0, 0), 4 * FAR * FAR);
        Check.same("and so", s.moment(2, 0), -4 * FAR * FAR);
    }

    // Promise 3: "A foot more: whether there was room."
    private static void feetAreTwelve() {
        StandTests s = new StandTests();
        for (int i = 0; i < 12; i++) {
            Check.same("foot " + i, s.foot(i, i * i), true);
        }
        Check.same("foot 12", s.foot(-FAR, FAR), false);
        Check.same("foot 12, again", s.foot(FAR, -FAR), false);
        Check.same("foot 12, where foot 0 is", s.foot(0, 0), false);
        Check.corners("the twelve", s, 0, 1, 2, 3, 4, 5, 6, 7, 8, 9, 10, 11);
    }

    // Promise 4: "IndexOutOfBoundsException": "there is no such part"
    private static void drawerParts() {
        intEdges("drawer of one part", 0, 0, "throws.IndexOutOfBoundsException",
            v -> Made.tableWithParts(1).drawer(v, 1));
        intEdges("drawer of three parts", 0, 2, "throws.IndexOutOfBoundsException",
            v -> Made.tableWithParts(3).drawer(v, 1));
        intEdges("drawer of 16 parts", 0, 15, "throws.IndexOutOfBoundsException",
            v -> Made.tableWithParts(16).drawer(v, 1));
        StandTests s = new StandTests();
        Check.badIndex("no part yet", () -> s.drawer(0, 1));
        s.part(0, 0, 0, 0);
        Check.same("one without grams is a part", s.drawer(0, 1), true);
    }

    // Promise 4: "out is not 1 .. 100000"
    private static void drawerNumbers() {
        longEdges("out", 1, FAR, v -> Made.tableWithParts(1).drawer(0, v));
        StandTests s = Made.withFeet(-FAR, -FAR, FAR, -FAR, FAR, FAR, -FAR, FAR);
        s.part(0, 0, 0, HEAVY);
        s.part(0, 1, 0, 1);
        s.drawer(0, FAR);
        s.drawer(1, FAR);
        Check.same("so far out to the side", s.tips(1), 0);
        Check.same("and one by one over it", s.tips(2), 3);
        StandTests least = Made.tableWithParts(0);
        least.part(5, 10, 0, 1);
        least.drawer(0, 1);
        Check.same("out by 1 over it", least.tips(1), 3);
    }

    // Promise 4: "false: there are 8"
    private static void drawersAreEight() {
        StandTests s = Made.tableWithParts(16);
        for (int i = 0; i < 8; i++) {
            Check.same("drawer " + i, s.drawer(2 * i, 1), true);
        }
        for (int i = 0; i < 16; i++) {
            Check.same("a ninth drawer, part " + i, s.drawer(i, 100), false);
        }
        Check.badArgument("there are no nine", () -> s.tips(9));
        Check.same("all eight are out by 1", s.tips(8), 0);
    }

    // Promise 4: "or it is one"
    private static void drawerOnce() {
        StandTests s = Made.tableWithParts(2);
        Check.same("it is none", s.drawer(1, 5), true);
        Check.same("it is one", s.drawer(1, 5), false);
        Check.same("it is one, out further", s.drawer(1, 100), false);
        Check.badArgument("there is one drawer", () -> s.tips(2));
        Check.same("out as at first", s.tips(1), 0);
        Check.same("another part", s.drawer(0, 6), true);
        Check.same("it is one still", s.drawer(1, 1), false);
        Check.same("both out, by 11 of 10", s.tips(2), 3);
    }

    // Promise 5: "x or y is not -100000 .. 100000, or grams not 0 .. 1000000"
    private static void personNumbers() {
        longEdges("person x", -FAR, FAR, v -> new StandTests().person(v, 0, 1));
        longEdges("person y", -FAR, FAR, v -> new StandTests().person(0, v, 1));
        longEdges("person grams", 0, HEAVY, v -> new StandTests().person(0, 0, v));
        StandTests s = Made.table(10, 10);
        s.person(FAR, -FAR, HEAVY);
        Check.same("its numbers are kept, over side 0", s.moment(0, 1), -10 * FAR * HEAVY);
        Check.same("its numbers are kept, over side 1", s.moment(1, 1), -10 * (FAR - 10) * HEAVY);
        fraction("x", s, 0, FAR, 1);
        fraction("y", s, 1, -FAR, 1);
        fraction("z", s, 2, 0, 1);
    }

    // Promise 5: "whether it is another one (by its numbers)"
    private static void personIsAnother() {
        StandTests s = Made.table(10, 10);
        Check.same("the first one", s.person(4, 5, 6), true);
        Check.same("the same", s.person(4, 5, 6), false);
        Check.same("the same again", s.person(4, 5, 6), false);
        Check.same("x by one", s.person(5, 5, 6), true);
        Check.same("y by one", s.person(5, 4, 6), true);
        Check.same("grams by one", s.person(5, 4, 7), true);
        Check.same("x and y changed about", s.person(4, 5, 7), true);
        Check.same("the one of before", s.person(4, 5, 6), true);
        Check.same("without grams at its place", s.person(4, 5, 0), true);
        Check.same("without grams elsewhere", s.person(4, 6, 0), true);
        Check.same("the same without grams", s.person(4, 6, 0), false);
        Check.same("from now on", s.moment(0, 1), 0);
    }

    // Promise 6: "on an axis (0 x, 1 y, 2 z ..)"; "IndexOutOfBoundsException: also of part2"
    private static void centreIndices() {
        StandTests s = Made.tableWithParts(1);
        intEdges("axis", 0, 2, "throws.IndexOutOfBoundsException", v -> s.centre(v, 0));
        intEdges("axis of the denominator", 0, 2, "throws.IndexOutOfBoundsException", v -> s.centre(v, 1));
        intEdges("part2", 0, 1, "throws.IndexOutOfBoundsException", v -> s.centre(0, v));
        intEdges("part2 of z", 0, 1, "throws.IndexOutOfBoundsException", v -> s.centre(2, v));
    }

    // Promise 6: "IllegalStateException: no GRAMS"
    private static void centreWithoutGrams() {
        StandTests s = Made.table(10, 10);
        s.part(7, 7, 7, 0);
        s.person(3, 3, 0);
        for (int axis = 0; axis <= 2; axis++) {
            int asked = axis;
            Check.badState("no grams, axis " + axis, () -> s.centre(asked, 0));
            Check.badState("no grams, axis " + axis + ", denominator", () -> s.centre(asked, 1));
        }
        s.person(3, 3, 1);
        fraction("of one gram of a person", s, 0, 3, 1);
        s.person(3, 3, 0);
        Check.badState("no grams again", () -> s.centre(0, 0));
        s.part(8, 8, 8, 1);
        fraction("of one gram of a part", s, 2, 8, 1);
    }

    // Promise 6: "without a common divisor"
    private static void centreInLowestTerms() {
        StandTests s = new StandTests();
        s.part(0, -6, 1, 4);
        fraction("0 of 1", s, 0, 0, 1);
        fraction("a whole number below 0", s, 1, -6, 1);
        s.part(3, 0, -1, 2);
        fraction("1", s, 0, 1, 1);
        fraction("-4", s, 1, -4, 1);
        fraction("1 of 3", s, 2, 1, 3);
        s.part(-3, 1, -1, 8);
        fraction("-18 of 14", s, 0, -9, 7);
        fraction("-16 of 14", s, 1, -8, 7);
        fraction("-6 of 14", s, 2, -3, 7);
        s.person(0, 1, 1);
        fraction("-15 of 15", s, 1, -1, 1);
        StandTests even = new StandTests();
        even.part(5, -5, 0, HEAVY);
        even.part(-5, 5, 0, HEAVY);
        fraction("even, x", even, 0, 0, 1);
        fraction("even, y", even, 1, 0, 1);
    }

    // Promise 6: "all drawers shut"
    private static void centreWithDrawersShut() {
        StandTests s = Made.tableWithDrawers(8, 8);
        Check.same("all are opened", s.tips(8), 0);
        fraction("with all shut", s, 1, 5, 1);
    }

    // Promise 6: the greatest sums are exact.
    private static void centreAtTheEdges() {
        StandTests s = new StandTests();
        for (int i = 0; i < 16; i++) {
            s.part(FAR, -FAR, FAR, HEAVY);
        }
        s.person(FAR, -FAR, HEAVY);
        fraction("the greatest x", s, 0, FAR, 1);
        fraction("the least y", s, 1, -FAR, 1);
        fraction("the person is at z 0", s, 2, 16 * FAR, 17);
        s.person(FAR - 1, -FAR, HEAVY - 1);
        fraction("by one less", s, 0, 17 * FAR * HEAVY - HEAVY - FAR + 1, 17 * HEAVY - 1);
    }

    // Promise 7: "NONE behind the last one"; "IndexOutOfBoundsException: k is below 0"
    private static void sideIndices() {
        StandTests s = Made.withFeet(0, 0, 9, 0, 0, 9);
        Check.same("NONE", NONE, -1);
        Check.same("the last corner", s.side(2), 2);
        Check.same("behind it", s.side(3), NONE);
        Check.same("where a twelfth corner would be", s.side(11), NONE);
        Check.same("behind a twelfth corner", s.side(12), NONE);
        Check.same("2 to the 16", s.side(65536), NONE);
        Check.same("the greatest k", s.side(Integer.MAX_VALUE), NONE);
        Check.badIndex("k is -1", () -> s.side(-1));
        Check.badIndex("the least k", () -> s.side(Integer.MIN_VALUE));
    }

    // Promise 8: "drawers are not 0 .. as many as there are"
    private static void tipsDrawers() {
        for (int count : new int[] {0, 1, 7, 8}) {
            StandTests s = Made.tableWithDrawers(9, count);
            intEdges("tips with " + count + " drawers", 0, count, "throws.IllegalArgumentException", v -> s.tips(v));
        }
    }

    // Promise 9: "no such side, which"
    private static void momentIndices() {
        StandTests triangle = Made.withFeet(0, 0, 9, 0, 0, 9, 2, 2);
        intEdges("side of three", 0, 2, "throws.IndexOutOfBoundsException", v -> triangle.moment(v, 0));
        intEdges("which", 0, 1, "throws.IndexOutOfBoundsException", v -> triangle.moment(0, v));
        StandTests table = Made.table(10, 10);
        intEdges("side of four", 0, 3, "throws.IndexOutOfBoundsException", v -> table.moment(v, 1));
        intEdges("which of the last side", 0, 1, "throws.IndexOutOfBoundsException", v -> table.moment(3, v));
        Check.badIndex("no side and no which", () -> table.moment(4, 2));
    }

    // Promise 9: "all drawers shut, with the person (which = 1) or without (0)"
    private static void momentWithDrawersShut() {
        StandTests s = Made.tableWithDrawers(8, 8);
        Check.same("all are opened", s.tips(8), 0);
        Check.same("all are shut, without", s.moment(2, 0), 400);
        Check.same("all are shut, with", s.moment(2, 1), 400);
        s.person(5, 51, 1);
        Check.same("the person is not asked", s.moment(2, 0), 400);
        Check.same("the person is", s.moment(2, 1), -10);
        StandTests bare = Made.table(10, 10);
        Check.same("nothing weighs", bare.moment(0, 0), 0);
        bare.person(5, 5, 1);
        Check.same("the person alone", bare.moment(0, 1), 50);
        Check.same("without it", bare.moment(0, 0), 0);
    }

    // Promise 9: the greatest sums are exact.
    private static void momentAtTheEdges() {
        StandTests s = Made.withFeet(-FAR, -FAR, FAR, FAR, -FAR, FAR);
        for (int i = 0; i < 15; i++) {
            s.part(FAR, -FAR, 0, HEAVY);
        }
        s.part(FAR, -FAR, 0, HEAVY - 1);
        long one = 8 * FAR * FAR / 2;
        Check.same("the least moment", s.moment(0, 0), -one * (16 * HEAVY - 1));
        s.person(-FAR, FAR, HEAVY);
        Check.same("the person's is the greatest", s.moment(0, 1), -one * (15 * HEAVY - 1));
        s.person(FAR, -FAR, HEAVY);
        Check.same("the person's is the least", s.moment(0, 1), -one * (17 * HEAVY - 1));
    }

    // Promise 10: "The most drawers that may be open .. NONE if it does not with none."
    private static void mostFromNoneToAll() {
        Check.same("no drawer", Made.table(10, 10).most(), 0);
        StandTests s = Made.tableWithDrawers(8, 8);
        // With k open the parts' moment over side 2 is 400 - 10 k, the person's 100 - 10 y.
        for (int may = 8; may >= 0; may--) {
            s.person(5, 50 - may, 1);
            Check.same("just " + may, s.most(), may);
            Check.same("it stands with " + may, s.tips(may), 0);
        }
        s.person(5, 51, 1);
        Check.same("not even with none", s.most(), NONE);
        s.person(5, -41, 1);
        Check.same("none, though one would help", s.most(), NONE);
        Check.same("it would", s.tips(1), 0);
        s.person(5, -40, 1);
        Check.same("just with none, so with all", s.most(), 8);
    }

    // Promise 11: "and it is 32 .. 126"
    private static void unitCharacters() {
        int[] good = {32, 33, 44, 45, 48, 57, 59, 125, 126};
        for (int u : good) {
            Check.same("unit " + u, new StandTests().unit(u), true);
        }
        int[] bad = {31, 127, 0, 10, -1, -32, 128, 255, 256 + 48, 65536 + 48, Integer.MIN_VALUE, Integer.MAX_VALUE,
            Integer.MIN_VALUE + 48};
        StandTests s = new StandTests();
        for (int u : bad) {
            Check.same("unit " + u, s.unit(u), false);
        }
        Check.same("none of them is in the text", Made.read(s, "1,2,3,4"), 1);
    }

    // Promise 11: "whether there was room (200)"
    private static void unitsAreTwoHundred() {
        StandTests s = new StandTests();
        Made.write(s, "-99999,-99999,99999,99999;".repeat(7) + "-1234,-12345,123,1");
        Check.same("character 200", s.unit('2'), false);
        Check.same("character 200, again", s.unit(';'), false);
        Check.same("character 200, that is none", s.unit(127), false);
        Check.same("the two hundred are read", s.rules(), 8);
        Check.same("the last one's grams", s.test(7, 1), 123);
        Check.same("the last of the two hundred was the drawers'", s.test(7, 2), 0);
    }

    // Promise 11: there is room for 200 again when the text has been read.
    private static void unitHasRoomAgain() {
        StandTests s = new StandTests();
        Made.write(s, "5".repeat(200));
        Check.same("no room", s.unit('5'), false);
        Check.same("the sixth digit", s.rules(), -6);
        Made.write(s, "0".repeat(199) + "1");
        Check.same("no room again", s.unit('5'), false);
        Check.same("the sixth digit again", s.rules(), -6);
    }

    // Promise 12: "or of its end, if more must come": a text of nothing
    private static void rulesOfNothing() {
        StandTests s = new StandTests();
        Check.same("nothing", s.rules(), -1);
        Check.same("nothing again", s.rules(), -1);
        Check.same("something", Made.read(s, "0,0,8,0"), 1);
        Check.same("nothing now", s.rules(), -1);
        Check.same("its test stays", s.test(0, 1), 8);
    }

    // Promise 12: "The text (which is empty then, also if it can't be read)"
    private static void rulesEmptyTheText() {
        StandTests s = new StandTests();
        Check.same("it is read", Made.read(s, "1,2,3,4"), 1);
        Check.same("it is empty then", Made.read(s, "5,6,7,8"), 1);
        Check.same("it is not read, as more must come", Made.read(s, "1,2,3,"), -7);
        Check.same("it is empty then too", Made.read(s, "4,5,6,7"), 1);
        Check.same("it is not read, as that can't be there", Made.read(s, "1,2,3,x4"), -7);
        Check.same("it is empty even so", Made.read(s, "4,5,6,7"), 1);
    }

    // Promise 12: "(then the tests stay as before)", else those of the text are in their place
    private static void rulesKeepTheTests() {
        StandTests s = new StandTests();
        Check.same("nothing was there", Made.read(s, "0,0,7,0;"), -9);
        Check.badIndex("no test yet", () -> s.test(0, 1));
        Made.read(s, "0,0,7,0;0,0,8,0");
        Check.same("a test, and what can't be there", Made.read(s, "0,0,1,0;0,0,2,0;0,0,3,0x"), -24);
        Check.same("test 0 stays", s.test(0, 1), 7);
        Check.same("test 1 stays", s.test(1, 1), 8);
        Check.badIndex("no test 2", () -> s.test(2, 1));
        Check.same("a 13th", Made.read(s, Made.tests(12) + ";"), -1 - Made.tests(12).length());
        Check.same("test 0 stays still", s.test(0, 1), 7);
        Check.badIndex("no test 2 still", () -> s.test(2, 1));
        Check.same("twelve more are twelve", Made.read(s, Made.tests(12)), 12);
        Check.same("test 0 of the twelve", s.test(0, 1), 0);
        Check.same("one is one", Made.read(s, "0,0,9,0"), 1);
        Check.same("test 0 is that", s.test(0, 1), 9);
        Check.badIndex("no test 1 now", () -> s.test(1, 1));
    }

    // Promise 12: "-1 less the place of the first character that can't be there, or of its end"
    private static void rulesTellThePlace() {
        String good = "-1,2,3,4;5,-6,7,8";
        boolean[] whole = new boolean[good.length() + 1];
        whole[8] = true;
        whole[17] = true;
        for (int end = 0; end <= good.length(); end++) {
            String text = good.substring(0, end);
            int due = !whole[end] ? -1 - end : end == 8 ? 1 : 2;
            Check.same("cut to " + text, Made.read(new StandTests(), text), due);
            Check.same("a space behind " + text, Made.read(new StandTests(), text + " "), -1 - end);
            Check.same("a letter behind " + text, Made.read(new StandTests(), text + "~9,9,9,9"), -1 - end);
        }
        Check.same("the first of two", Made.read(new StandTests(), "1,2,a,b"), -5);
        Check.same("; for ,", Made.read(new StandTests(), "1,2;3,4"), -4);
        Check.same(", for ;", Made.read(new StandTests(), "1,2,3,4,5,6,7,8"), -8);
        Check.same("the last place of all", Made.read(new StandTests(),
            "-99999,-99999,99999,99999;".repeat(7) + "-1234,-12345,1234,"), -201);
        Check.same("the last character of all", Made.read(new StandTests(),
            "-99999,-99999,99999,99999;".repeat(7) + "-1234,-12345,123,-"), -200);
    }

    // Promise 12: "A number of drawers or grams may be anything that is written so."
    private static void rulesTakeAnyNumber() {
        StandTests s = new StandTests();
        Check.same("the greatest", Made.read(s, "0,0,99999,99999"), 1);
        Check.same("its grams", s.test(0, 1), 99999);
        Check.same("nine drawers and none", Made.read(s, "0,0,0,9;0,0,00000,00009"), 2);
        Check.same("0 grams", s.test(0, 1), 0);
        Check.same("00000 grams", s.test(1, 1), 0);
        Check.same("zeros before it", Made.read(s, "0,0,00012,0"), 1);
        Check.same("12 grams", s.test(0, 1), 12);
    }

    // Promise 13: "IndexOutOfBoundsException": "there is no such .. test"
    private static void testIndices() {
        for (int count : new int[] {1, 2, 12}) {
            StandTests s = Made.table(10, 10);
            Made.read(s, Made.tests(count));
            for (int what = 0; what <= 2; what++) {
                int asked = what;
                intEdges("test of " + count + ", what " + what, 0, count - 1, "throws.IndexOutOfBoundsException",
                    v -> s.test(v, asked));
            }
        }
    }

    // Promise 13: "IllegalArgumentException: another what; IllegalStateException: no POLYGON (for what = 0)"
    private static void testWhat() {
        StandTests table = Made.table(10, 10);
        Made.read(table, "5,5,6,0");
        intEdges("what", 0, 2, "throws.IllegalArgumentException", v -> table.test(0, v));
        StandTests bare = Made.withFeet(0, 0, 9, 0);
        Made.read(bare, "5,5,6,0");
        Check.badState("what 0 without a polygon", () -> bare.test(0, 0));
        Check.same("what 1 without a polygon", bare.test(0, 1), 6);
        Check.same("what 2 without a polygon", bare.test(0, 2), 0);
        Check.badArgument("what 3 without a polygon", () -> bare.test(0, 3));
        bare.foot(0, 9);
        Check.same("what 0 on three feet", bare.test(0, 0), 2);
    }

    // Promise 13: "as many as there are, if more are told"
    private static void testDrawersOpen() {
        StandTests s = Made.tableWithParts(8);
        Made.read(s, "5,5,0,0;5,5,0,1;5,5,0,7;5,5,0,8;5,5,0,9;5,5,0,99999");
        int[] told = {0, 1, 7, 8, 9, 99999};
        for (int there = 0; there <= 8; there++) {
            for (int k = 0; k < 6; k++) {
                Check.same("with " + there + ", told " + told[k], s.test(k, 2), Math.min(there, told[k]));
            }
            if (there < 8) {
                s.drawer(there, there == 7 ? 34 : 1);
            }
        }
        // Eight grams from 5 to 10 bear 40; seven out by 1 leave 33, less than the eighth's 34.
        int[] due = {0, 0, 0, 3, 3, 3};
        for (int k = 0; k < 6; k++) {
            Check.same("it stands or tips, told " + told[k], s.test(k, 0), due[k]);
        }
    }

    // Promise 13: the greatest numbers that can be written, and THE PERSON is not there.
    private static void testAtTheEdges() {
        StandTests s = Made.table(10, 10);
        Made.read(s, "99999,5,99999,0;-99999,5,99999,0;5,99999,99999,0;5,-99999,99999,0;-0,-0,1,0;99999,99999,0,0");
        int[] due = {2, 4, 3, 1, 0, 0};
        for (int k = 0; k < 6; k++) {
            Check.same("test " + k, s.test(k, 0), due[k]);
        }
        Check.same("THE PERSON", s.person(5, -FAR, HEAVY), true);
        Check.same("it tips with THE PERSON", s.tips(0), 1);
        for (int k = 0; k < 6; k++) {
            Check.same("in place of it, test " + k, s.test(k, 0), due[k]);
        }
        Check.same("it is THE PERSON still", s.person(5, -FAR, HEAVY), false);
        // As many grams as far from side 1 (x 10) on its other side bear the person of test 0.
        s.part(10 - (99999 - 10), 5, 0, 99999);
        Check.same("it is just borne", s.test(0, 0), 0);
        s.part(11, 5, 0, 1);
        Check.same("by one gram it is not", s.test(0, 0), 2);
    }

    // Promise 14: "it TIPS in some test"
    private static void anchorOfTests() {
        StandTests s = Made.table(10, 10);
        Check.same("no tests", s.anchor(), false);
        String stands = "10,10,99999,0";
        for (int tips = 0; tips < 12; tips++) {
            StringBuilder text = new StringBuilder();
            for (int k = 0; k < 12; k++) {
                text.append(k == 0 ? "" : ";").append(k == tips ? "11,5,1,0" : "9,9,9,0");
            }
            StandTests one = Made.table(10, 10);
            Made.read(one, text.toString());
            Check.same("only test " + tips + " of twelve tips", one.anchor(), true);
        }
        Made.read(s, stands);
        Check.same("it stands in the only one", s.anchor(), false);
        Made.read(s, "11,10,99999,0");
        Check.same("it tips in the only one", s.anchor(), true);
        Made.read(s, "11,10,99999,0;");
        Check.same("the tests stay", s.anchor(), true);
        Made.read(s, stands);
        Check.same("others in their place", s.anchor(), false);
        Check.badState("no polygon and no tests", () -> new StandTests().anchor());
    }

    // Promise 14: neither THE PERSON nor the drawers that no test opens are asked.
    private static void anchorIsNotOfThePerson() {
        StandTests s = Made.tableWithDrawers(2, 1);
        s.drawer(1, 50);
        s.person(50, 50, 50);
        Check.same("no tests", s.anchor(), false);
        Made.read(s, "5,5,0,0;5,5,0,1");
        Check.same("one drawer at most", s.anchor(), false);
        Made.read(s, "5,5,0,0;5,5,0,2");
        Check.same("the second one too", s.anchor(), true);
        StandTests late = Made.tableWithParts(1);
        Made.read(late, "5,5,0,99999");
        Check.same("no drawer yet", late.anchor(), false);
        late.drawer(0, 5);
        Check.same("one to the side", late.anchor(), false);
        late.part(5, 11, 0, 1);
        Check.same("one more over it", late.anchor(), true);
    }

    // Promise 15: "a height is not -1000 .. 1000"
    private static void wobbleHeights() {
        StandTests s = Made.table(10, 10);
        StandTests t = Made.table(10, 10);
        longEdges("z1", -1000, 1000, v -> s.wobble(v, 0, 0, 0));
        longEdges("z2", -1000, 1000, v -> s.wobble(0, v, 0, 0));
        longEdges("z3", -1000, 1000, v -> t.wobble(0, 0, v, 0));
        longEdges("z4", -1000, 1000, v -> t.wobble(0, 0, 0, v));
        Check.sameDouble("the fourth highest", s.wobble(-1000, -1000, -1000, 1000), 2000.0);
        Check.sameDouble("the fourth lowest", s.wobble(1000, 1000, 1000, -1000), 2000.0);
        Check.sameDouble("crosswise", s.wobble(1000, -1000, 1000, -1000), 4000.0);
        Check.sameDouble("all highest", s.wobble(1000, 1000, 1000, 1000), 0.0);
        Check.sameDouble("all lowest", s.wobble(-1000, -1000, -1000, -1000), 0.0);
    }

    // Promise 15: "there are not four feet"; "the first four feet"
    private static void wobbleFeet() {
        StandTests s = new StandTests();
        long[][] places = {{0, 0}, {10, 0}, {0, 10}, {3, 4}};
        for (int i = 0; i < 4; i++) {
            String what = i + " feet";
            Check.badState(what, () -> s.wobble(0, 0, 0, 0));
            s.foot(places[i][0], places[i][1]);
        }
        Check.sameDouble("four feet", s.wobble(0, 10, 0, 0), 3.0);
        Check.sameDouble("the third foot's y", s.wobble(0, 0, 10, 0), 4.0);
        for (int i = 4; i < 12; i++) {
            s.foot(-i, i);
        }
        Check.sameDouble("twelve feet", s.wobble(0, 10, 0, 0), 3.0);
    }

    // Promise 15: "or D is 0"
    private static void wobblePlane() {
        StandTests line = Made.withFeet(0, 0, FAR, FAR, -FAR, -FAR, 0, 5);
        Check.badState("the first three on a line", () -> line.wobble(0, 0, 0, 0));
        Check.same("though there is a polygon", line.side(0), 2);
        StandTests twice = Made.withFeet(1, 1, 4, 4, 1, 1, 0, 5);
        Check.badState("the third where the first is", () -> twice.wobble(0, 0, 0, 0));
        StandTests heap = Made.withFeet(1, 1, 1, 1, 1, 1, 1, 1);
        Check.badState("all at one place", () -> heap.wobble(0, 0, 0, 0));
        StandTests least = Made.withFeet(7, 7, 8, 7, 7, 8, 7, 7);
        Check.sameDouble("D is 1", least.wobble(0, 9, 9, 0), 0.0);
        StandTests clock = Made.withFeet(7, 7, 7, 8, 8, 7, 8, 8);
        Check.sameDouble("D is -1", clock.wobble(0, 3, 4, 0), 7.0);
        StandTests hair = Made.withFeet(-FAR, -FAR, FAR, FAR, FAR, FAR - 1, -FAR, FAR);
        // D = -2 FAR, p4 x p3 = -4 FAR FAR, p2 x p4 = 4 FAR FAR
        Check.sameDouble("a hair's breadth", hair.wobble(0, 1000, -1000, 1), 4000.0 * FAR - 1);
    }

    // Promise 15: "the size of z4 - (z2 * (p4 x p3) + z3 * (p2 x p4)) / D"
    private static void wobbleSize() {
        StandTests s = Made.withFeet(0, 0, -70, 5, -34, 76, -58, -62);
        Check.sameDouble("above", s.wobble(-7, -11, -4, -13), 1.7580582524271842);
        Check.sameDouble("below", s.wobble(7, 11, 4, 13), 1.7580582524271842);
        StandTests moved = Made.withFeet(1000, -500, 930, -495, 966, -424, 942, -562);
        Check.sameDouble("less the first one's place", moved.wobble(-7, -11, -4, -13), 1.7580582524271842);
        Check.sameDouble("less the first one's height", moved.wobble(993, 989, 996, 987), 1.7580582524271842);
        StandTests third = Made.withFeet(0, 0, 3, 0, 0, 3, 1, 1);
        Check.sameDouble("a third below", third.wobble(0, 1, 0, 0), 1.0 / 3.0);
        Check.sameDouble("a third above", third.wobble(0, -1, 0, 0), 1.0 / 3.0);
    }

    // Promise 16: "load or span is not 0 .. 10000, or width or thick not 0.125 .. 1000"
    private static void bendRanges() {
        doubleEdges("span", 0, 10000, v -> new StandTests().bend(v, 1, 1, 1));
        doubleEdges("width", 0.125, 1000, v -> new StandTests().bend(1, v, 1, 1));
        doubleEdges("thick", 0.125, 1000, v -> new StandTests().bend(1, 1, v, 1));
        doubleEdges("load", 0, 10000, v -> new StandTests().bend(1, 1, 1, v));
        Check.badArgument("width 0", () -> new StandTests().bend(1, 0, 1, 1));
        Check.badArgument("thick 0", () -> new StandTests().bend(1, 1, 0, 1));
        Check.badArgument("all wrong", () -> new StandTests().bend(-1, 0, 0, -1));
    }

    // Promise 16: at the edges
    private static void bendAtTheEdges() {
        StandTests s = new StandTests();
        Check.sameDouble("nothing of the least shelf", s.bend(0, 0.125, 0.125, 0), 0.0);
        Check.sameDouble("the greatest bend", s.bend(10000, 0.125, 0.125, 10000), 6.4e18);
        Check.sameDouble("the greatest shelf", s.bend(10000, 1000, 1000, 10000), 1562.5);
        Check.sameDouble("as wide as can be", s.bend(2, 1000, 1, 8), 0.01);
        Check.sameDouble("as thick as can be", s.bend(2000, 1, 1000, 8), 10.0);
    }

    // Promise 16: "from the left to the right, the denominator first"
    private static void bendFromLeftToRight() {
        StandTests s = new StandTests();
        Check.sameDouble("one order", s.bend(0.3, 0.3, 123.4, 1.1), 8.232083018390351E-9);
        Check.sameDouble("the same order", s.bend(0.3, 0.3, 0.7, 47.1), 1.9310313411078714);
        Check.sameDouble("again", s.bend(0.3, 0.3, 0.3, 1.1), 0.5729166666666665);
    }

    // Promise 17: "years are not 0 .. 1000"
    private static void creepYears() {
        StandTests s = new StandTests();
        intEdges("creep", 0, 1000, "throws.IllegalArgumentException", v -> s.creep(v));
        Check.badArgument("years that would make the divisor 0", () -> s.creep(-2));
        Check.sameDouble("no years", s.creep(0), 1.0);
        Check.sameDouble("one year", s.creep(1), 1.1666666666666667);
        Check.sameDouble("two years", s.creep(2), 1.25);
        Check.sameDouble("999 years", s.creep(999), 1 + 499.5 / 1001);
        Check.sameDouble("1000 years", s.creep(1000), 1 + 500.0 / 1002);
    }

    // Promise 18: "above 5 and below 25"; "above 89 and below 230"
    private static void gapEdges() {
        StandTests s = new StandTests();
        long[] vs = {5, 6, 7, 23, 24, 25, 26, 88, 89, 90, 91, 228, 229, 230, 0, -1, -6, -24, -90, Long.MIN_VALUE,
            Long.MAX_VALUE, (1L << 32) + 6, (1L << 32) + 90, 6 - (1L << 32), 256 + 6, 65536 + 90};
        int[] due = {0, 1, 1, 1, 1, 0, 0, 0, 0, 2, 2, 2, 2, 0, 0, 0, 0, 0, 0, 0, 0, 0, 0, 0, 0, 0};
        for (int i = 0; i < vs.length; i++) {
            Check.same("gap " + vs[i], s.gap(vs[i]), due[i]);
        }
    }
}

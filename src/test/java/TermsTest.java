/** The boundary cases of the document's 'Terms', a sentence at a time. */
public final class TermsTest {
    private static final long FAR = 100000;
    private static final long HEAVY = 1000000;

    private TermsTest() {
    }

    public static void main(String[] args) {
        fewerThanThreeCorners();
        threeCorners();
        whatNeedsNoPolygon();
        inTheMiddle();
        onALine();
        onALineFarApart();
        firstCorner();
        againstTheClock();
        feetAtOnePlace();
        aFootMoreChangesThePolygon();
        sideClosesThePolygon();
        drawersInTheOrderTold();
        drawersMoveAlongY();
        personOfNoGrams();
        centreOfPartsAndPerson();
        momentOfOneGram();
        standsOnTheLine();
        standsWithoutGrams();
        tipsOverTheFirstSide();
        howManyTests();
        howManyDigits();
        whereAMinusMayBe();
        partsFirstException();
        partsExceptionBeforeFalse();
        questionsFirstException();
        Check.done("TermsTest");
    }

    private static void noPolygon(String what, StandTests s) {
        Made.read(s, "0,0,1,0");
        Check.badState("side, " + what, () -> s.side(0));
        Check.badState("tips, " + what, () -> s.tips(0));
        Check.badState("moment, " + what, () -> s.moment(0, 0));
        Check.badState("most, " + what, () -> s.most());
        Check.badState("test, " + what, () -> s.test(0, 0));
        Check.badState("anchor, " + what, () -> s.anchor());
    }

    // "There is one only if there are three corners at least."
    private static void fewerThanThreeCorners() {
        noPolygon("no feet", new StandTests());
        noPolygon("one foot", Made.withFeet(1, 2));
        noPolygon("two feet", Made.withFeet(1, 2, 4, 8));
        noPolygon("three at one place", Made.withFeet(1, 2, 1, 2, 1, 2));
        noPolygon("three at two places", Made.withFeet(1, 2, 4, 8, 1, 2));
        noPolygon("three on a level line", Made.withFeet(1, 2, 9, 2, 4, 2));
        noPolygon("three on an upright line", Made.withFeet(1, 2, 1, 9, 1, 4));
        noPolygon("three on a falling line", Made.withFeet(0, 0, -FAR, FAR, FAR, -FAR));
        StandTests line = new StandTests();
        StandTests heap = new StandTests();
        for (int i = 0; i < 12; i++) {
            line.foot(3 * (i * 5 % 12), -7 * (i * 5 % 12));
            heap.foot(-FAR, FAR);
        }
        noPolygon("twelve on a line", line);
        noPolygon("twelve at one place", heap);
    }

    // "There is one only if there are three corners at least."
    private static void threeCorners() {
        StandTests s = Made.withFeet(0, 0, 1, 0, 0, 1);
        Made.read(s, "0,0,1,0");
        Check.corners("the least triangle", s, 0, 1, 2);
        Check.same("tips", s.tips(0), 0);
        Check.same("moment", s.moment(0, 0), 0);
        Check.same("most", s.most(), 0);
        Check.same("test", s.test(0, 0), 0);
        Check.same("anchor", s.anchor(), false);
        Check.corners("the third one after two at one place", Made.withFeet(0, 0, 0, 0, 5, 0, 5, 5), 0, 2, 3);
    }

    // What is not told to need a polygon answers without one.
    private static void whatNeedsNoPolygon() {
        StandTests s = new StandTests();
        Check.same("part", s.part(3, 4, 5, 2), 0);
        Check.same("drawer", s.drawer(0, 7), true);
        Check.same("person", s.person(1, 1, 2), true);
        Check.same("centre", s.centre(0, 0), 2);
        Check.same("rules", Made.read(s, "0,0,5,9"), 1);
        Check.same("test, grams", s.test(0, 1), 5);
        Check.same("test, drawers", s.test(0, 2), 1);
        Check.sameDouble("bend", s.bend(10, 2, 1, 8), 625.0);
        Check.sameDouble("creep", s.creep(2), 1.25);
        Check.same("gap", s.gap(6), 1);
    }

    // "those feet that are not in the middle of, or on a line between, others"
    private static void inTheMiddle() {
        Check.corners("in the middle", Made.withFeet(0, 0, 10, 0, 10, 10, 0, 10, 5, 5), 0, 1, 2, 3);
        Check.corners("in the middle, told first", Made.withFeet(5, 5, 0, 0, 10, 0, 10, 10, 0, 10), 1, 2, 3, 4);
        Check.corners("just inside of the first side", Made.withFeet(0, 0, 10, 0, 10, 10, 0, 10, 5, 1), 0, 1, 2, 3);
        Check.corners("just inside of the last side", Made.withFeet(0, 0, 10, 0, 10, 10, 0, 10, 1, 5), 0, 1, 2, 3);
        Check.corners("just outside of the first side",
            Made.withFeet(0, 0, 10, 0, 10, 10, 0, 10, 5, -1), 0, 4, 1, 2, 3);
        Check.corners("just outside of the second side",
            Made.withFeet(0, 0, 10, 0, 10, 10, 0, 10, 11, 5), 0, 1, 4, 2, 3);
        Check.corners("just outside of the third side",
            Made.withFeet(0, 0, 10, 0, 10, 10, 0, 10, 5, 11), 0, 1, 2, 4, 3);
        Check.corners("just outside of the last side",
            Made.withFeet(0, 0, 10, 0, 10, 10, 0, 10, -1, 5), 4, 0, 1, 2, 3);
        Check.corners("all the others in the middle",
            Made.withFeet(0, 0, 9, 0, 0, 9, 1, 1, 2, 2, 1, 2, 2, 1, 3, 3, 3, 1, 1, 3, 4, 4, 1, 7), 0, 1, 2);
    }

    // "or on a line between, others"
    private static void onALine() {
        long[][] between = {{5, 0}, {10, 5}, {5, 10}, {0, 5}, {1, 0}, {9, 0}, {10, 1}, {10, 9}, {9, 10}, {1, 10},
            {0, 9}, {0, 1}};
        for (long[] p : between) {
            String place = "a foot at " + p[0] + ", " + p[1];
            Check.corners(place + ", told last", Made.withFeet(0, 0, 10, 0, 10, 10, 0, 10, p[0], p[1]), 0, 1, 2, 3);
            Check.corners(place + ", told first", Made.withFeet(p[0], p[1], 0, 0, 10, 0, 10, 10, 0, 10), 1, 2, 3, 4);
        }
        Check.corners("two on each side of a triangle",
            Made.withFeet(6, 0, 3, 0, 0, 3, 0, 6, 3, 6, 6, 3, 9, 0, 0, 9, 0, 0), 8, 6, 7);
        Check.corners("on slanted sides",
            Made.withFeet(0, 0, -2, 1, -4, 2, 2, 1, -2, 3, 6, 3, 4, 2, 0, 4, 4, 4, 2, 5), 2, 0, 5, 9);
        Check.corners("on an upright side from a place of one number",
            Made.withFeet(0, 7, 7, 7, 7, 9, 7, 12), 0, 1, 3);
        Check.corners("on an upright side to a place of one number",
            Made.withFeet(3, 3, 3, 5, 3, 9, 8, 9), 0, 3, 2);
        Check.corners("behind the ends", Made.withFeet(0, 0, 5, 0, 0, 5, 10, 0, 0, 10), 0, 3, 4);
    }

    // "on a line between": far apart a hair's breadth still counts.
    private static void onALineFarApart() {
        Check.corners("on the line", Made.withFeet(-FAR, -FAR, FAR, FAR, -FAR, FAR, 0, 0), 0, 1, 2);
        Check.corners("a hair outside of it", Made.withFeet(-FAR, -FAR, FAR, FAR, -FAR, FAR, 1, 0), 0, 3, 1, 2);
        Check.corners("a hair inside of it", Made.withFeet(-FAR, -FAR, FAR, FAR, -FAR, FAR, 0, 1), 0, 1, 2);
        Check.corners("the flattest triangle", Made.withFeet(-FAR, -FAR, FAR, FAR, FAR, FAR - 1), 0, 2, 1);
        noPolygon("the three on a line", Made.withFeet(-FAR, -FAR, FAR, FAR, FAR - 1, FAR - 1));
        Check.corners("the greatest square", Made.withFeet(FAR, FAR, -FAR, FAR, FAR, -FAR, -FAR, -FAR), 3, 2, 0, 1);
    }

    // "the first one is the foot with the least x (of the same x the least y)"
    private static void firstCorner() {
        Check.corners("the least x, not the least y", Made.withFeet(5, -5, 0, 7, 5, 9), 1, 0, 2);
        Check.corners("x below 0", Made.withFeet(0, 0, -1, 5, 3, 3), 1, 0, 2);
        Check.corners("of two x the least y", Made.withFeet(0, 5, 0, 4, 8, 8), 1, 2, 0);
        Check.corners("of four x the least y", Made.withFeet(-2, 1, -2, 4, 6, 0, -2, -3, -2, 2), 3, 2, 1);
        Check.corners("not the first one told", Made.withFeet(9, 9, 8, 0, 1, 1), 2, 1, 0);
    }

    // "the others follow against the clock (x to the right, y up)"
    private static void againstTheClock() {
        Check.corners("told against the clock", Made.withFeet(0, 0, 4, 0, 4, 4, 0, 4), 0, 1, 2, 3);
        Check.corners("told with the clock", Made.withFeet(0, 0, 0, 4, 4, 4, 4, 0), 0, 3, 2, 1);
        Check.corners("told crosswise", Made.withFeet(0, 0, 4, 4, 4, 0, 0, 4), 0, 2, 1, 3);
        StandTests round = Made.withFeet(6, 3, 0, 9, 5, 1, -3, 3, 3, 9, 0, 0, -2, 8, 6, 6, 3, 0, -3, 6, 5, 8, -2, 1);
        Check.corners("twelve corners", round, 3, 11, 5, 8, 2, 0, 7, 10, 4, 1, 6, 9);
    }

    // "of feet at one place the least number is told"
    private static void feetAtOnePlace() {
        Check.corners("at the first corner", Made.withFeet(0, 0, 0, 0, 4, 1, 4, 4), 0, 2, 3);
        Check.corners("at the second corner", Made.withFeet(4, 1, 0, 0, 4, 1, 4, 4), 1, 0, 3);
        Check.corners("at the last corner", Made.withFeet(4, 4, 0, 0, 4, 1, 4, 4), 1, 2, 0);
        Check.corners("at each corner", Made.withFeet(4, 4, 4, 1, 0, 0, 0, 0, 4, 4, 4, 1), 2, 1, 0);
        Check.corners("four at each corner",
            Made.withFeet(7, 2, 1, 5, 1, 0, 1, 0, 7, 2, 1, 5, 1, 5, 1, 0, 7, 2, 7, 2, 1, 0, 1, 5), 2, 0, 1);
        Check.corners("one more on a side, twice", Made.withFeet(2, 0, 2, 0, 4, 0, 0, 0, 0, 4), 3, 2, 4);
    }

    private static void aFootMoreChangesThePolygon() {
        StandTests s = Made.withFeet(0, 0, 4, 0, 0, 4);
        Check.corners("three feet", s, 0, 1, 2);
        s.foot(4, 4);
        Check.corners("a fourth one", s, 0, 1, 3, 2);
        s.foot(9, 0);
        Check.corners("foot 1 is on a line now", s, 0, 4, 3, 2);
        s.foot(9, 9);
        Check.corners("foot 3 is on a line now", s, 0, 4, 5, 2);
        s.foot(-9, 4);
        Check.corners("foot 2 is in the middle now", s, 6, 0, 4, 5);
        s.foot(-9, -9);
        Check.corners("a new first corner", s, 7, 4, 5, 6);
    }

    // "SIDE k goes from corner k to the next one (from the last one to corner 0)."
    private static void sideClosesThePolygon() {
        StandTests s = Made.withFeet(0, 0, 6, 0, 0, 3);
        s.part(1, 1, 0, 1);
        Check.same("from 0, 0 to 6, 0", s.moment(0, 0), 6);
        Check.same("from 6, 0 to 0, 3", s.moment(1, 0), 9);
        Check.same("from 0, 3 to 0, 0", s.moment(2, 0), 3);
        Check.badIndex("no fourth side", () -> s.moment(3, 0));
    }

    // "DRAWERS 0 .. 7, in the order in which they are told"; "So many drawers are open: the first ones."
    private static void drawersInTheOrderTold() {
        StandTests s = Made.table(10, 10);
        for (int i = 0; i < 16; i++) {
            s.part(5, 5, 0, 1);
        }
        int[] told = {15, 0, 8, 3, 12, 1, 7, 4};
        for (int i = 0; i < 8; i++) {
            Check.same("drawer " + i, s.drawer(told[i], i == 5 ? 76 : 1), true);
        }
        for (int open = 0; open <= 8; open++) {
            Check.same("with " + open + " open", s.tips(open), open < 6 ? 0 : 3);
        }
        Check.same("most", s.most(), 5);
    }

    // "moved by so much along y"
    private static void drawersMoveAlongY() {
        StandTests s = Made.table(10, 10);
        s.part(5, 2, 0, 1);
        s.drawer(0, 8);
        Check.same("to the side", s.tips(1), 0);
        StandTests over = Made.table(10, 10);
        over.part(5, 2, 0, 1);
        over.drawer(0, 9);
        Check.same("by one over it", over.tips(1), 3);
        StandTests back = Made.table(10, 10);
        back.part(5, -9, 0, 1);
        back.drawer(0, 10);
        Check.same("shut it is in front", back.tips(0), 1);
        Check.same("up, not down", back.tips(1), 0);
        StandTests wide = Made.withFeet(0, -FAR, 10, -FAR, 10, FAR, 0, FAR);
        wide.part(10, 0, 0, HEAVY);
        wide.drawer(0, FAR);
        Check.same("not along x", wide.tips(1), 0);
    }

    // "(0 grams at first: none)"
    private static void personOfNoGrams() {
        StandTests s = Made.table(10, 10);
        s.part(5, 5, 0, 3);
        Check.same("none at first", s.moment(0, 1), s.moment(0, 0));
        Check.same("one without grams is another one", s.person(FAR, -FAR, 0), true);
        Check.same("it has no moment", s.moment(0, 1), 150);
        Check.same("it tips nothing", s.tips(0), 0);
        Check.same("nor is it in the centre", s.centre(0, 0), 5);
        Check.same("a gram has", s.person(FAR, -FAR, 1), true);
        Check.same("its moment", s.moment(0, 1), 150 - 10 * FAR);
        Check.same("it tips it", s.tips(0), 1);
    }

    // "the sum of GRAMS times place of all parts .. and the person, by the sum of all GRAMS"
    private static void centreOfPartsAndPerson() {
        StandTests s = new StandTests();
        for (int i = 0; i < 16; i++) {
            s.part(i, 2 * i, 3 * i, 1);
        }
        Check.same("all sixteen parts, x", s.centre(0, 0), 15);
        Check.same("by their grams", s.centre(0, 1), 2);
        Check.same("all sixteen parts, z", s.centre(2, 0), 45);
        s.person(52, -240, 1);
        Check.same("and the person, x", s.centre(0, 0), 172);
        Check.same("by all grams", s.centre(0, 1), 17);
        Check.same("and the person, y", s.centre(1, 0), 0);
        Check.same("and the person, z", s.centre(2, 0), 360);
    }

    // "g times ((b - a) x (p - a))"
    private static void momentOfOneGram() {
        StandTests s = Made.withFeet(-3, 2, 5, -4, 7, 9);
        s.part(11, -6, 50, 1);
        Check.same("over side 0", s.moment(0, 0), 8 * -8 - -6 * 14);
        Check.same("over side 1", s.moment(1, 0), 2 * -2 - 13 * 6);
        Check.same("over side 2", s.moment(2, 0), -10 * -15 - -7 * 4);
        s.part(0, 1, -50, 6);
        Check.same("the sum over both", s.moment(0, 0), 20 + 6 * (8 * -1 - -6 * 3));
        s.person(11, -6, 2);
        Check.same("and the person", s.moment(0, 1), 20 + 60 + 40);
        Check.same("without it", s.moment(0, 0), 20 + 60);
    }

    // "It STANDS if no side has a MOMENT below 0"
    private static void standsOnTheLine() {
        long[][] on = {{5, 0}, {10, 5}, {5, 10}, {0, 5}};
        long[][] over = {{5, -1}, {11, 5}, {5, 11}, {-1, 5}};
        for (int k = 0; k < 4; k++) {
            StandTests s = Made.table(10, 10);
            s.person(on[k][0], on[k][1], HEAVY);
            Check.same("a moment of 0 over side " + k, s.moment(k, 1), 0);
            Check.same("it stands on side " + k, s.tips(0), 0);
            s.part(over[k][0], over[k][1], 0, 1);
            Check.same("a moment below 0 over side " + k, s.moment(k, 1), -10);
            Check.same("it tips over side " + k, s.tips(0), 1 + k);
        }
        StandTests least = Made.withFeet(0, 0, 1, 0, 0, 1);
        least.person(0, -1, 1);
        Check.same("the least moment below 0", least.moment(0, 1), -1);
        Check.same("it tips by it", least.tips(0), 1);
    }

    // "(also if there are no GRAMS)"
    private static void standsWithoutGrams() {
        StandTests s = Made.table(10, 10);
        Made.read(s, "99999,99999,0,0");
        Check.same("nothing at all", s.tips(0), 0);
        s.part(FAR, FAR, 0, 0);
        s.drawer(0, FAR);
        s.person(-FAR, FAR, 0);
        Check.same("nothing that weighs, shut", s.tips(0), 0);
        Check.same("nothing that weighs, open", s.tips(1), 0);
        Check.same("most", s.most(), 1);
        Check.same("in a test", s.test(0, 0), 0);
        Check.same("no anchor", s.anchor(), false);
    }

    // "else it TIPS over the first side that has"
    private static void tipsOverTheFirstSide() {
        long[][] beyond = {{-50, -50}, {60, -50}, {60, 60}, {-50, 60}};
        int[] due = {1, 1, 2, 3};
        for (int i = 0; i < 4; i++) {
            StandTests s = Made.table(10, 10);
            s.person(beyond[i][0], beyond[i][1], 1);
            Check.same("of two sides, beyond corner " + i, s.tips(0), due[i]);
        }
        StandTests less = Made.table(10, 10);
        less.person(1000, -1, 1);
        Check.same("over the first one, though less than over the second", less.tips(0), 1);
        Check.same("a little", less.moment(0, 1), -10);
        Check.same("much", less.moment(1, 1), -9900);
        int[] xs = {-3, -2, 0, 3, 5, 6, 6, 5, 3, 0, -2, -3};
        int[] ys = {3, 1, 0, 0, 1, 3, 6, 8, 9, 9, 8, 6};
        StandTests s = new StandTests();
        for (int k = 0; k < 12; k++) {
            s.foot(100 * xs[k], 100 * ys[k]);
        }
        for (int k = 0; k < 12; k++) {
            int next = (k + 1) % 12;
            long x = 50 * (xs[k] + xs[next]);
            long y = 50 * (ys[k] + ys[next]);
            s.person(x, y, 1);
            Check.same("in the middle of side " + k, s.tips(0), 0);
            s.person(x + Integer.signum(ys[next] - ys[k]), y - Integer.signum(xs[next] - xs[k]), 1);
            Check.same("just beyond side " + k, s.tips(0), 1 + k);
        }
    }

    // "one or more with ; (59) between them, 12 at most (no ; can be behind the 12th)"
    private static void howManyTests() {
        Check.same("none", new StandTests().rules(), -1);
        for (int count = 1; count <= 12; count++) {
            StandTests s = new StandTests();
            Check.same(count + " tests", Made.read(s, Made.tests(count)), count);
            Check.same("the last of " + count, s.test(count - 1, 1), count - 1);
        }
        String twelve = Made.tests(12);
        int end = twelve.length();
        Check.same("no ; behind the 12th", Made.read(new StandTests(), twelve + ";"), -1 - end);
        Check.same("no 13th", Made.read(new StandTests(), Made.tests(13)), -1 - end);
        Check.same("nothing else behind the 12th", Made.read(new StandTests(), twelve + " "), -1 - end);
        String eleven = Made.tests(11) + ";";
        Check.same("a ; behind the 11th calls for more", Made.read(new StandTests(), eleven), -1 - eleven.length());
        Check.same("none between two ;", Made.read(new StandTests(), "0,0,0,0;;0,0,0,0"), -1 - 8);
        Check.same("none before a ;", Made.read(new StandTests(), ";0,0,0,0"), -1);
    }

    // "each a number of one to five digits"
    private static void howManyDigits() {
        String[] digits = {"", "7", "77", "777", "7777", "77777", "777777"};
        for (int at = 0; at < 4; at++) {
            for (int count = 0; count < digits.length; count++) {
                String text = "0,".repeat(at) + digits[count] + ",0".repeat(3 - at);
                // The place of what comes where a first digit must be, or of the sixth one.
                int wrong = 2 * at + (count == 0 ? 0 : 5);
                boolean good = count >= 1 && count <= 5;
                Check.same("rules of " + text, Made.read(new StandTests(), text), good ? 1 : -1 - wrong);
            }
        }
        for (int at = 0; at < 2; at++) {
            String before = "0,".repeat(at) + "-";
            String behind = ",0".repeat(3 - at);
            Check.same("five behind -", Made.read(new StandTests(), before + "77777" + behind), 1);
            Check.same("six behind -", Made.read(new StandTests(), before + "777777" + behind), -7 - 2 * at);
            Check.same("none behind -", Made.read(new StandTests(), before + behind), -2 - 2 * at);
        }
        for (char c = '0'; c <= '9'; c++) {
            Check.same("digit " + c, Made.read(new StandTests(), "0,0," + c + ",0"), 1);
        }
        Check.same("/ before 0", Made.read(new StandTests(), "0,0,/,0"), -5);
        Check.same(": behind 9", Made.read(new StandTests(), "0,0,:,0"), -5);
    }

    // "x and y perhaps with - (45) before it"
    private static void whereAMinusMayBe() {
        Check.same("before x", Made.read(new StandTests(), "-1,1,1,1"), 1);
        Check.same("before y", Made.read(new StandTests(), "1,-1,1,1"), 1);
        Check.same("before both", Made.read(new StandTests(), "-1,-1,1,1"), 1);
        Check.same("before a later x and y", Made.read(new StandTests(), "1,1,1,1;-1,-1,1,1"), 2);
        Check.same("before grams", Made.read(new StandTests(), "1,1,-1,1"), -5);
        Check.same("before drawers", Made.read(new StandTests(), "1,1,1,-1"), -7);
        Check.same("before a later one's drawers", Made.read(new StandTests(), "1,1,1,1;1,1,1,-1"), -15);
        Check.same("twice", Made.read(new StandTests(), "--1,1,1,1"), -2);
        Check.same("behind x", Made.read(new StandTests(), "1-,1,1,1"), -2);
        Check.same("+", Made.read(new StandTests(), "1,+1,1,1"), -3);
    }

    // "of several exceptions the one named first is thrown": of part, drawer, person, foot and wobble
    private static void partsFirstException() {
        StandTests full = Made.tableWithParts(16);
        Check.badState("part: no room, and a wrong x", () -> full.part(FAR + 1, 0, 0, 0));
        Check.badState("part: no room, and wrong grams", () -> full.part(0, 0, 0, -1));
        Check.badState("part: no room, and all wrong", () -> full.part(-FAR - 1, FAR + 1, FAR + 1, HEAVY + 1));
        Check.badIndex("drawer: no such part, and out is 0", () -> full.drawer(16, 0));
        Check.badIndex("drawer: no part below, and out too far", () -> full.drawer(-1, FAR + 1));
        StandTests three = Made.withFeet(0, 0, 9, 0, 0, 9);
        Check.badState("wobble: three feet, and a height", () -> three.wobble(0, 0, 0, -1001));
        three.foot(4, 4);
        Check.badArgument("wobble: a height alone", () -> three.wobble(0, 0, 0, -1001));
        StandTests line = Made.withFeet(0, 0, 3, 3, 9, 9, 0, 9);
        Check.badState("wobble: D is 0, and a height", () -> line.wobble(0, 1001, 0, 0));
    }

    // An exception is due before the answer false.
    private static void partsExceptionBeforeFalse() {
        StandTests s = Made.tableWithDrawers(10, 8);
        Check.badIndex("drawer: there are 8, and no such part", () -> s.drawer(10, 1));
        Check.badArgument("drawer: there are 8, and out is 0", () -> s.drawer(9, 0));
        Check.badArgument("drawer: it is one, and out too far", () -> s.drawer(0, FAR + 1));
        for (int i = 4; i < 12; i++) {
            s.foot(5, 5);
        }
        Check.badArgument("foot: there are 12, and a wrong x", () -> s.foot(FAR + 1, 0));
        Check.badArgument("foot: there are 12, and a wrong y", () -> s.foot(0, -FAR - 1));
    }

    // "of several exceptions the one named first is thrown": of the calls that ask
    private static void questionsFirstException() {
        StandTests bare = new StandTests();
        Check.badIndex("centre: no axis, and no grams", () -> bare.centre(3, 0));
        Check.badIndex("centre: no part2, and no grams", () -> bare.centre(0, 2));
        Check.badState("side: no polygon, and below 0", () -> bare.side(-1));
        Check.badState("tips: no polygon, and below 0", () -> bare.tips(-1));
        Check.badState("tips: no polygon, and too many", () -> bare.tips(1));
        Check.badState("moment: no polygon, and no side", () -> bare.moment(-1, 0));
        Check.badState("moment: no polygon, and no which", () -> bare.moment(0, 2));
        Check.badIndex("test: no test, what and polygon", () -> bare.test(0, 3));
        Check.badIndex("test: no test and polygon", () -> bare.test(0, 0));
        Made.read(bare, "0,0,0,0");
        Check.badIndex("test: no test behind, what and polygon", () -> bare.test(1, 3));
        Check.badIndex("test: no test below, and what", () -> bare.test(-1, -1));
        Check.badArgument("test: what and no polygon", () -> bare.test(0, 3));
        Check.badArgument("test: what below and no polygon", () -> bare.test(0, -1));
        Check.badState("test: no polygon alone", () -> bare.test(0, 0));
    }
}

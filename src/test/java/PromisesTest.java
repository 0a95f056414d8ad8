/** The document's promises one by one: ordinary inputs, edges, wrong inputs. */
public final class PromisesTest {
    private static final long FAR = 100000;
    private static final long HEAVY = 1000000;
    private static final long LOW = Long.MIN_VALUE;
    private static final long HIGH = Long.MAX_VALUE;

    private PromisesTest() {
    }

    public static void main(String[] args) {
        newObject();
        part();
        foot();
        drawer();
        person();
        centre();
        side();
        sideOfCrowdedFeet();
        tips();
        tipsOnTheEdge();
        moment();
        momentAtItsGreatest();
        most();
        unit();
        rules();
        rulesThatCannotBeRead();
        rulesOfTwelve();
        test();
        testFollowsTheObject();
        anchor();
        wobble();
        bend();
        creep();
        gap();
        Check.done("PromisesTest");
    }

    private static void rulesAnswer(String text, int due) {
        Check.same("rules of " + text, Made.read(new StandTests(), text), due);
    }

    // Promise 1
    private static void newObject() {
        Check.same("NONE", StandTests.NONE, -1);
        StandTests s = new StandTests();
        Check.badState("side of a new object", () -> s.side(0));
        Check.badState("centre of a new object", () -> s.centre(0, 0));
        Check.badIndex("drawer of a new object", () -> s.drawer(0, 1));
        Check.badIndex("test of a new object", () -> s.test(0, 1));
        Check.same("no person at first", s.person(0, 0, 0), false);
        Check.same("an empty text", s.rules(), -1);
        Check.same("first part", s.part(0, 0, 0, 0), 0);
        StandTests t = Made.table(10, 10);
        Check.same("no tests at first", t.anchor(), false);
        Check.same("no drawers at first", t.most(), 0);
        Check.same("nothing weighs at first", t.tips(0), 0);
        Check.badArgument("no drawer at first", () -> t.tips(1));
        Check.same("another object stays new", new StandTests().part(1, 1, 1, 1), 0);
    }

    // Promise 2
    private static void part() {
        StandTests s = new StandTests();
        Check.badArgument("part x above", () -> s.part(FAR + 1, 0, 0, 0));
        Check.badArgument("part x below", () -> s.part(-FAR - 1, 0, 0, 0));
        Check.badArgument("part y above", () -> s.part(0, FAR + 1, 0, 0));
        Check.badArgument("part y below", () -> s.part(0, -FAR - 1, 0, 0));
        Check.badArgument("part z above", () -> s.part(0, 0, FAR + 1, 0));
        Check.badArgument("part z below", () -> s.part(0, 0, -FAR - 1, 0));
        Check.badArgument("part grams above", () -> s.part(0, 0, 0, HEAVY + 1));
        Check.badArgument("part grams below", () -> s.part(0, 0, 0, -1));
        Check.badArgument("part least long", () -> s.part(LOW, 0, 0, 0));
        Check.badArgument("part greatest long", () -> s.part(0, 0, 0, HIGH));
        Check.badArgument("part 2 to the 32", () -> s.part(1L << 32, 0, 0, 0));
        Check.badState("nothing was kept", () -> s.centre(0, 0));
        Check.same("part 0", s.part(FAR, -FAR, FAR, HEAVY), 0);
        Check.same("its x", s.centre(0, 0), FAR);
        Check.same("its y", s.centre(1, 0), -FAR);
        Check.same("its z", s.centre(2, 0), FAR);
        Check.same("part 1", s.part(-FAR, FAR, -FAR, 0), 1);
        for (int i = 2; i < 16; i++) {
            Check.same("part " + i, s.part(i, i, i, 1), i);
        }
        Check.badState("part 16", () -> s.part(0, 0, 0, 0));
        Check.badState("part 16 with a wrong place", () -> s.part(FAR + 1, 0, 0, -1));
    }

    // Promise 3
    private static void foot() {
        StandTests s = new StandTests();
        Check.badArgument("foot x above", () -> s.foot(FAR + 1, 0));
        Check.badArgument("foot x below", () -> s.foot(-FAR - 1, 0));
        Check.badArgument("foot y above", () -> s.foot(0, FAR + 1));
        Check.badArgument("foot y below", () -> s.foot(0, -FAR - 1));
        Check.badArgument("foot least long", () -> s.foot(LOW, LOW));
        Check.same("foot 0", s.foot(FAR, FAR), true);
        Check.same("foot 1", s.foot(-FAR, FAR), true);
        for (int i = 2; i < 12; i++) {
            Check.same("foot " + i, s.foot(0, -i), true);
        }
        Check.same("foot 12", s.foot(0, -FAR), false);
        Check.badArgument("foot 12 with a wrong place", () -> s.foot(0, FAR + 1));
        Check.same("foot 12 is no corner", s.side(1), 11);
        Check.same("behind the last corner", s.side(3), StandTests.NONE);
    }

    // Promise 4
    private static void drawer() {
        StandTests s = Made.table(10, 10);
        Check.badIndex("drawer of no part", () -> s.drawer(0, 1));
        for (int i = 0; i < 10; i++) {
            s.part(5, 5, 0, 1);
        }
        Check.badIndex("drawer below", () -> s.drawer(-1, 1));
        Check.badIndex("drawer behind", () -> s.drawer(10, 1));
        Check.badIndex("drawer least int", () -> s.drawer(Integer.MIN_VALUE, 1));
        Check.badIndex("drawer behind, and out", () -> s.drawer(10, 0));
        Check.badArgument("out 0", () -> s.drawer(0, 0));
        Check.badArgument("out below", () -> s.drawer(0, -1));
        Check.badArgument("out above", () -> s.drawer(0, FAR + 1));
        Check.badArgument("nothing was kept", () -> s.tips(1));
        Check.same("drawer 0", s.drawer(9, FAR), true);
        Check.same("it is one", s.drawer(9, 1), false);
        Check.badArgument("it is one, and out", () -> s.drawer(9, 0));
        for (int i = 0; i < 7; i++) {
            Check.same("drawer " + (i + 1), s.drawer(i, 1), true);
        }
        Check.same("a ninth drawer", s.drawer(8, 1), false);
        Check.badArgument("a ninth drawer, and out", () -> s.drawer(8, FAR + 1));
        Check.badIndex("a ninth drawer of no part", () -> s.drawer(10, 1));
        Check.same("it goes out so far", s.tips(1), 3);
        Check.badArgument("eight drawers", () -> s.tips(9));
    }

    // Promise 5
    private static void person() {
        StandTests s = Made.table(10, 10);
        Check.same("the same as at first", s.person(0, 0, 0), false);
        Check.same("another x", s.person(1, 0, 0), true);
        Check.same("another y", s.person(1, 2, 0), true);
        Check.same("other grams", s.person(1, 2, 3), true);
        Check.same("the same", s.person(1, 2, 3), false);
        Check.badArgument("person x above", () -> s.person(FAR + 1, 0, 0));
        Check.badArgument("person x below", () -> s.person(-FAR - 1, 0, 0));
        Check.badArgument("person y above", () -> s.person(0, FAR + 1, 0));
        Check.badArgument("person y below", () -> s.person(0, -FAR - 1, 0));
        Check.badArgument("person grams above", () -> s.person(0, 0, HEAVY + 1));
        Check.badArgument("person grams below", () -> s.person(0, 0, -1));
        Check.same("still the same", s.person(1, 2, 3), false);
        Check.same("the person's moment", s.moment(0, 1), 60);
        Check.same("the greatest", s.person(FAR, -FAR, HEAVY), true);
        Check.same("the person leans", s.tips(0), 1);
        Check.same("the least", s.person(-FAR, FAR, 0), true);
        Check.same("none again", s.person(0, 0, 0), true);
        Check.same("it stands again", s.tips(0), 0);
    }

    // Promise 6
    private static void centre() {
        StandTests s = new StandTests();
        Check.badIndex("axis below, no grams", () -> s.centre(-1, 0));
        Check.badIndex("axis 3, no grams", () -> s.centre(3, 0));
        Check.badIndex("part2 below, no grams", () -> s.centre(0, -1));
        Check.badIndex("part2 2, no grams", () -> s.centre(0, 2));
        Check.badState("no grams", () -> s.centre(2, 1));
        s.part(7, 7, 7, 0);
        Check.badState("a part without grams", () -> s.centre(0, 0));
        s.person(4, -6, 6);
        fraction("of a person alone", s, 4, 1, -6, 1, 0, 1);
        s.part(-3, 0, 9, 12);
        fraction("below 0, and 0 of 1", s, -2, 3, -2, 1, 6, 1);
        s.drawer(1, 100);
        fraction("a drawer is shut here", s, -2, 3, -2, 1, 6, 1);
        Check.badIndex("axis 3", () -> s.centre(3, 1));
        Check.badIndex("part2 2", () -> s.centre(2, 2));
        StandTests full = new StandTests();
        for (int i = 0; i < 16; i++) {
            full.part(FAR, -FAR, -FAR + i, HEAVY);
        }
        fraction("the greatest", full, FAR, 1, -FAR, 1, -199985, 2);
    }

    private static void fraction(String what, StandTests s, long xn, long xd, long yn, long yd, long zn, long zd) {
        long[] due = {xn, xd, yn, yd, zn, zd};
        for (int i = 0; i < 6; i++) {
            Check.same("centre(" + i / 2 + ", " + i % 2 + ") " + what, s.centre(i / 2, i % 2), due[i]);
        }
    }

    // Promise 7
    private static void side() {
        StandTests s = new StandTests();
        Check.badState("no feet, and below", () -> s.side(-1));
        s.foot(4, 4);
        s.foot(0, 0);
        Check.badState("two feet", () -> s.side(0));
        s.foot(2, 2);
        Check.badState("three feet on a line", () -> s.side(0));
        s.foot(0, 0);
        s.foot(4, 4);
        Check.badState("five feet at three places", () -> s.side(5));
        s.foot(0, 3);
        Check.corners("from the least x, then y", s, 1, 0, 5);
        Check.badIndex("below", () -> s.side(-1));
        Check.badIndex("least int", () -> s.side(Integer.MIN_VALUE));
        Check.same("far behind", s.side(Integer.MAX_VALUE), StandTests.NONE);
    }

    private static void sideOfCrowdedFeet() {
        StandTests s = new StandTests();
        s.foot(5, 5);
        s.foot(10, 10);
        s.foot(10, 10);
        s.foot(0, 10);
        s.foot(10, 0);
        s.foot(0, 5);
        s.foot(0, 0);
        s.foot(5, 10);
        s.foot(0, 0);
        s.foot(10, 5);
        s.foot(5, 0);
        s.foot(0, 10);
        Check.corners("inner ones, ones on lines, ones at one place", s, 6, 4, 1, 3);
        StandTests bent = new StandTests();
        bent.foot(1, FAR);
        bent.foot(-FAR, -FAR);
        bent.foot(FAR, FAR);
        bent.foot(-FAR, FAR);
        Check.corners("one on the upper line", bent, 1, 2, 3);
        StandTests hair = new StandTests();
        hair.foot(-FAR, -FAR);
        hair.foot(FAR, FAR - 1);
        hair.foot(0, -1);
        Check.corners("a hair's breadth is a polygon", hair, 0, 2, 1);
        StandTests all = new StandTests();
        int[] xs = {0, 3, 5, 6, 6, 5, 3, 0, -2, -3, -3, -2};
        int[] ys = {0, 0, 1, 3, 6, 8, 9, 9, 8, 6, 3, 1};
        for (int i = 0; i < 12; i++) {
            all.foot(xs[i], ys[i]);
        }
        Check.corners("twelve corners", all, 10, 11, 0, 1, 2, 3, 4, 5, 6, 7, 8, 9);
    }

    // Promise 8
    private static void tips() {
        StandTests bare = new StandTests();
        Check.badState("no polygon, and below", () -> bare.tips(-1));
        StandTests s = Made.table(10, 8);
        Check.same("no grams", s.tips(0), 0);
        s.part(5, 4, 0, 100);
        s.part(5, 2, 0, 50);
        s.drawer(1, 20);
        s.drawer(0, 1);
        Check.same("shut", s.tips(0), 0);
        Check.same("the first one told is open first", s.tips(1), 3);
        Check.same("both", s.tips(2), 3);
        Check.badArgument("three", () -> s.tips(3));
        Check.badArgument("below", () -> s.tips(-1));
        Check.badArgument("least int", () -> s.tips(Integer.MIN_VALUE));
        s.person(5, -20, 15);
        Check.same("the person holds it down", s.tips(1), 0);
        s.person(5, 0, 1000);
        Check.same("the person holds both", s.tips(2), 0);
        s.person(-1000, -1000, 1000);
        Check.same("the first side of two", s.tips(0), 1);
        s.person(-1000, 4, 1000);
        Check.same("the last side", s.tips(0), 4);
        s.person(1000, 4, 1000);
        Check.same("the second side", s.tips(0), 2);
    }

    private static void tipsOnTheEdge() {
        StandTests s = Made.table(10, 10);
        s.part(10, 10, 0, HEAVY);
        Check.same("on a corner", s.tips(0), 0);
        s.part(11, 5, 0, 1);
        Check.same("by one", s.tips(0), 2);
        s.part(9, 5, 0, 1);
        Check.same("back on the side", s.tips(0), 0);
        s.part(10, 11, 0, 0);
        Check.same("without grams", s.tips(0), 0);
        StandTests least = new StandTests();
        least.foot(0, 1);
        least.foot(1, 0);
        least.foot(0, 0);
        Check.corners("the least polygon", least, 2, 1, 0);
        least.part(0, -1, 0, 1);
        Check.same("a moment of -1", least.moment(0, 0), -1);
        Check.same("it is below 0", least.tips(0), 1);
    }

    // Promise 9
    private static void moment() {
        StandTests bare = new StandTests();
        Check.badState("no polygon, and no side", () -> bare.moment(-1, 2));
        StandTests s = Made.table(10, 8);
        s.part(2, 3, 0, 5);
        s.drawer(0, 50);
        s.person(4, 20, 7);
        Check.same("moment(0, 0)", s.moment(0, 0), 150);
        Check.same("moment(1, 0)", s.moment(1, 0), 320);
        Check.same("moment(2, 0)", s.moment(2, 0), 250);
        Check.same("moment(3, 0)", s.moment(3, 0), 80);
        Check.same("moment(0, 1)", s.moment(0, 1), 1550);
        Check.same("moment(1, 1)", s.moment(1, 1), 656);
        Check.same("moment(2, 1)", s.moment(2, 1), -590);
        Check.same("moment(3, 1)", s.moment(3, 1), 304);
        Check.badIndex("side 4", () -> s.moment(4, 0));
        Check.badIndex("side below", () -> s.moment(-1, 0));
        Check.badIndex("which 2", () -> s.moment(0, 2));
        Check.badIndex("which below", () -> s.moment(0, -1));
    }

    private static void momentAtItsGreatest() {
        StandTests s = new StandTests();
        s.foot(-FAR, -FAR);
        s.foot(FAR, -FAR);
        s.foot(FAR, FAR);
        for (int i = 0; i < 16; i++) {
            s.part(-FAR, FAR, 0, HEAVY);
        }
        for (int i = 0; i < 8; i++) {
            s.drawer(i, FAR);
        }
        s.person(-FAR, FAR, HEAVY);
        Check.same("greatest moment(0, 1)", s.moment(0, 1), 680000000000000000L);
        Check.same("greatest moment(2, 1)", s.moment(2, 1), -680000000000000000L);
        Check.same("greatest moment(2, 0)", s.moment(2, 0), -640000000000000000L);
        Check.same("no overflow with all out", s.tips(8), 3);
    }

    // Promise 10
    private static void most() {
        StandTests bare = new StandTests();
        Check.badState("no polygon", () -> bare.most());
        StandTests s = Made.table(10, 10);
        Check.same("no drawers", s.most(), 0);
        for (int i = 0; i < 8; i++) {
            s.part(5, 5, 0, 100);
            s.drawer(i, 1);
        }
        Check.same("all eight", s.most(), 8);
        s.person(5, 10 + 35, 100);
        Check.same("five", s.most(), 5);
        s.person(5, 10 + 34, 100);
        Check.same("six", s.most(), 6);
        s.person(5, 10 + 40, 100);
        Check.same("just none", s.most(), 0);
        s.person(5, 10 + 41, 100);
        Check.same("not even with none", s.most(), StandTests.NONE);
        s.person(5, -45, 100);
        Check.same("drawers that would help it", s.most(), StandTests.NONE);
        Check.same("they do", s.tips(8), 0);
    }

    // Promise 11
    private static void unit() {
        StandTests s = new StandTests();
        Check.same("31", s.unit(31), false);
        Check.same("127", s.unit(127), false);
        Check.same("-1", s.unit(-1), false);
        Check.same("65536 and 53", s.unit(65536 + 53), false);
        Check.same("least int", s.unit(Integer.MIN_VALUE), false);
        Check.same("greatest int", s.unit(Integer.MAX_VALUE), false);
        Check.same("none was kept", s.rules(), -1);
        Check.same("32", s.unit(32), true);
        Check.same("32 can't be there", s.rules(), -1);
        Check.same("126", s.unit(126), true);
        Check.same("126 can't be there", s.rules(), -1);
        String trial = "5,4,10,0;";
        for (int i = 0; i < 200; i++) {
            Check.same("unit " + i, s.unit(i < 72 ? trial.charAt(i % 9) : '0'), true);
        }
        Check.same("unit 200", s.unit('0'), false);
        Check.same("unit 200, wrong", s.unit(0), false);
        Check.same("the sixth digit", s.rules(), -1 - 77);
        Check.same("room again", s.unit('5'), true);
        Check.same("empty before", s.rules(), -2);
        for (int i = 0; i < 200; i++) {
            s.unit(i < 97 ? "-99999,-99999,99999,99999;".charAt(i % 26) : ';');
        }
        Check.same("a ; behind the fourth grams", s.rules(), -1 - 97);
    }

    // Promise 12
    private static void rules() {
        rulesAnswer("5,4,10,0", 1);
        rulesAnswer("5,4,10,0;1,2,3,4", 2);
        rulesAnswer("-5,-4,10,0", 1);
        rulesAnswer("-0,-00000,00000,00000", 1);
        rulesAnswer("-99999,-99999,99999,99999", 1);
        StandTests s = new StandTests();
        Check.same("a text of 200", Made.read(s, "-99999,-99999,99999,99999;".repeat(7) + "-1234,-12345,123,1"), 8);
        Check.same("its last grams", s.test(7, 1), 123);
        Check.same("a text of 200 with more to come", Made.read(s, "-99999,-99999,99999,99999;".repeat(7)
            + "-1234,-12345,1234,"), -201);
        Check.same("two tests", Made.read(s, "1,2,3,0;4,5,6,0"), 2);
        Check.same("empty then", s.rules(), -1);
        Check.same("they stay", s.test(1, 1), 6);
        Check.same("not read", Made.read(s, "7,8,9,0;x"), -9);
        Check.same("empty then too", s.rules(), -1);
        Check.same("they stay too", s.test(0, 1), 3);
        Check.same("both", s.test(1, 1), 6);
        Check.same("one test in their place", Made.read(s, "7,8,9,0"), 1);
        Check.same("the new one", s.test(0, 1), 9);
        Check.badIndex("the old one", () -> s.test(1, 1));
    }

    private static void rulesThatCannotBeRead() {
        rulesAnswer("", -1);
        rulesAnswer("-", -2);
        rulesAnswer("--5", -2);
        rulesAnswer("+5,4,10,0", -1);
        rulesAnswer(" 5,4,10,0", -1);
        rulesAnswer(";", -1);
        rulesAnswer(",", -1);
        rulesAnswer("5", -2);
        rulesAnswer("5-", -2);
        rulesAnswer("5;", -2);
        rulesAnswer("5/4,10,0", -2);
        rulesAnswer("5:4,10,0", -2);
        rulesAnswer("5,", -3);
        rulesAnswer("5,-", -4);
        rulesAnswer("5,-,", -4);
        rulesAnswer("12345", -6);
        rulesAnswer("123456,4,10,0", -6);
        rulesAnswer("-12345", -7);
        rulesAnswer("-123456", -7);
        rulesAnswer("5,123456", -8);
        rulesAnswer("5,4,123456", -10);
        rulesAnswer("5,4,10,123456", -13);
        rulesAnswer("5,4,10,000000", -13);
        rulesAnswer("5,4,-10,0", -5);
        rulesAnswer("5,4,10,-1", -8);
        rulesAnswer("5,4,10", -7);
        rulesAnswer("5,4,10,", -8);
        rulesAnswer("5,4,10,0,", -9);
        rulesAnswer("5,4,10,0 ", -9);
        rulesAnswer("5,4,10,0;", -10);
        rulesAnswer("5,4,10,0;;", -10);
        rulesAnswer("5,4,10,0;5,4,10,x", -17);
        rulesAnswer("5,4,,0", -5);
    }

    private static void rulesOfTwelve() {
        StringBuilder text = new StringBuilder("1,2,3,0");
        for (int i = 1; i < 12; i++) {
            text.append(";1,2,3,").append(i);
        }
        rulesAnswer(text.toString(), 12);
        rulesAnswer(text + ";", -1 - text.length());
        rulesAnswer(text + ";1,2,3,4", -1 - text.length());
        StandTests s = new StandTests();
        Check.same("twelve", Made.read(s, text.toString()), 12);
        Check.same("the twelfth is there", s.test(11, 1), 3);
        Check.badIndex("no thirteenth", () -> s.test(12, 1));
    }

    // Promise 13
    private static void test() {
        StandTests s = new StandTests();
        Check.badIndex("no test, and what", () -> s.test(0, 3));
        Check.same("read", Made.read(s, "5,-4,100,0;5,12,99999,99999;0,0,0,1"), 3);
        Check.badIndex("below", () -> s.test(-1, 0));
        Check.badIndex("behind", () -> s.test(3, 0));
        Check.badArgument("what below, no polygon", () -> s.test(0, -1));
        Check.badArgument("what 3, no polygon", () -> s.test(0, 3));
        Check.badState("no polygon", () -> s.test(0, 0));
        Check.same("grams without a polygon", s.test(1, 1), 99999);
        Check.same("drawers without a polygon", s.test(1, 2), 0);
        s.foot(0, 0);
        s.foot(10, 0);
        s.foot(10, 8);
        s.foot(0, 8);
        Check.same("over side 0", s.test(0, 0), 1);
        Check.same("over side 2", s.test(1, 0), 3);
        Check.same("none leans", s.test(2, 0), 0);
        Check.same("what 1 of 0", s.test(0, 1), 100);
        Check.same("what 1 of 2", s.test(2, 1), 0);
    }

    private static void testFollowsTheObject() {
        StandTests s = Made.table(10, 8);
        s.part(5, 4, 0, 100);
        s.part(5, 4, 0, 100);
        Made.read(s, "5,4,10,99999;5,4,10,1;-5,4,1000,0");
        Check.same("no drawers yet", s.test(0, 2), 0);
        s.drawer(1, 4);
        s.drawer(0, 5);
        Check.same("as many as there are", s.test(0, 2), 2);
        Check.same("one of two", s.test(1, 2), 1);
        Check.same("it tips with both", s.test(0, 0), 3);
        Check.same("it stands with one", s.test(1, 0), 0);
        Check.same("x below 0", s.test(2, 0), 4);
        s.person(5, 1000, 1000);
        Check.same("in place of the person", s.test(1, 0), 0);
        s.part(5, 0, 0, 1000);
        Check.same("the parts of now", s.test(0, 0), 0);
    }

    // Promise 14
    private static void anchor() {
        StandTests s = new StandTests();
        Check.badState("no polygon", () -> s.anchor());
        Made.read(s, "5,4,10,0;5,4,10,0;5,9,10,0");
        Check.badState("no polygon, with tests", () -> s.anchor());
        s.foot(0, 0);
        s.foot(10, 0);
        s.foot(10, 8);
        s.foot(0, 8);
        Check.same("the last one tips", s.anchor(), true);
        s.part(5, 4, 0, 10);
        Check.same("now it stands", s.anchor(), false);
        s.person(5, 100, 100);
        Check.same("the person is not in a test", s.anchor(), false);
        s.drawer(0, 100);
        Check.same("the drawer is shut in the tests", s.anchor(), false);
        Made.read(s, "5,4,0,1;5,4,0,0");
        Check.same("the first one tips", s.anchor(), true);
        Made.read(s, "5,4,0,0");
        Check.same("none tips", s.anchor(), false);
    }

    // Promise 15
    private static void wobble() {
        StandTests s = new StandTests();
        s.foot(0, 0);
        s.foot(10, 0);
        s.foot(10, 8);
        Check.badState("three feet, and a height", () -> s.wobble(1001, 0, 0, 0));
        s.foot(0, 8);
        Check.sameDouble("flat", s.wobble(3, 3, 3, 3), 0.0);
        Check.sameDouble("the fourth is high", s.wobble(0, 0, 0, 5), 5.0);
        Check.sameDouble("the fourth is low", s.wobble(0, 0, 0, -5), 5.0);
        Check.sameDouble("the first is high", s.wobble(7, 0, 0, 0), 7.0);
        Check.sameDouble("the second is high", s.wobble(0, 7, 0, 0), 7.0);
        Check.sameDouble("the third is high", s.wobble(0, 0, 7, 0), 7.0);
        Check.sameDouble("a plane", s.wobble(1, 3, 4, 2), 0.0);
        Check.sameDouble("the greatest", s.wobble(-1000, 1000, -1000, 1000), 4000.0);
        s.foot(50, 50);
        Check.sameDouble("a fifth foot is no matter", s.wobble(0, 0, 0, 5), 5.0);
        for (int i = 0; i < 4; i++) {
            int at = i;
            Check.badArgument("above " + i, () -> s.wobble(at == 0 ? 1001 : 0, at == 1 ? 1001 : 0,
                at == 2 ? 1001 : 0, at == 3 ? 1001 : 0));
            Check.badArgument("below " + i, () -> s.wobble(at == 0 ? -1001 : 0, at == 1 ? -1001 : 0,
                at == 2 ? -1001 : 0, at == 3 ? -1001 : 0));
        }
        StandTests line = new StandTests();
        line.foot(0, 0);
        line.foot(4, 4);
        line.foot(8, 8);
        line.foot(1, 7);
        Check.badState("D is 0, and a height", () -> line.wobble(1001, 0, 0, 0));
        StandTests odd = new StandTests();
        odd.foot(1, 1);
        odd.foot(2, 8);
        odd.foot(4, 2);
        odd.foot(-3, 5);
        // D = 1 * 1 - 7 * 3 = -20, p4 x p3 = -16, p2 x p4 = 32
        Check.sameDouble("a quotient", odd.wobble(1, 4, 3, 0), quotient(-1, 3 * -16 + 2 * 32, -20));
        Check.sameDouble("another quotient", odd.wobble(0, 1, 0, 1), quotient(1, -16, -20));
    }

    private static double quotient(long z4, long above, long below) {
        double off = z4 - (double) above / below;
        return off < 0 ? -off : off;
    }

    // Promise 16
    private static void bend() {
        StandTests s = new StandTests();
        Check.sameDouble("625", s.bend(10, 2, 1, 8), 625.0);
        Check.sameDouble("no load", s.bend(10, 2, 1, 0), 0.0);
        Check.sameDouble("no span", s.bend(0, 2, 1, 8), 0.0);
        Check.sameDouble("thick three times", s.bend(10, 1, 2, 8), 156.25);
        Check.sameDouble("the order counts", s.bend(0.3, 0.7, 1.1, 0.1),
            0.15625 * 0.1 * 0.3 * 0.3 * 0.3 / (0.7 * 1.1 * 1.1 * 1.1));
        Check.sameDouble("the greatest", s.bend(10000, 0.125, 0.125, 10000), 0.15625 * 1e16 * 4096);
        Check.sameDouble("the least", s.bend(10000, 1000, 1000, 10000), 0.15625 * 1e4);
        double inf = Double.POSITIVE_INFINITY;
        double[] wrongSizes = {-1e-300, -1, 10000.000001, inf, -inf, Double.NaN};
        for (double v : wrongSizes) {
            Check.badArgument("span " + v, () -> s.bend(v, 2, 1, 8));
            Check.badArgument("load " + v, () -> s.bend(10, 2, 1, v));
        }
        double[] wrongBoards = {0, -0.0, 0.1249999, -1, 1000.0000001, inf, -inf, Double.NaN};
        for (double v : wrongBoards) {
            Check.badArgument("width " + v, () -> s.bend(10, v, 1, 8));
            Check.badArgument("thick " + v, () -> s.bend(10, 2, v, 8));
        }
    }

    // Promise 17
    private static void creep() {
        StandTests s = new StandTests();
        Check.sameDouble("0", s.creep(0), 1.0);
        Check.sameDouble("1", s.creep(1), 1 + 0.5 / 3);
        Check.sameDouble("2", s.creep(2), 1.25);
        Check.sameDouble("1000", s.creep(1000), 1 + 500.0 / 1002.0);
        Check.badArgument("-1", () -> s.creep(-1));
        Check.badArgument("-2", () -> s.creep(-2));
        Check.badArgument("1001", () -> s.creep(1001));
        Check.badArgument("least int", () -> s.creep(Integer.MIN_VALUE));
        Check.badArgument("greatest int", () -> s.creep(Integer.MAX_VALUE));
    }

    // Promise 18
    private static void gap() {
        StandTests s = new StandTests();
        for (long v = -50; v < 400; v++) {
            int due = v >= 6 && v <= 24 ? 1 : v >= 90 && v <= 229 ? 2 : 0;
            Check.same("gap " + v, s.gap(v), due);
        }
        Check.same("gap least long", s.gap(LOW), 0);
        Check.same("gap greatest long", s.gap(HIGH), 0);
        Check.same("gap 2 to the 32 and 10", s.gap((1L << 32) + 10), 0);
    }
}

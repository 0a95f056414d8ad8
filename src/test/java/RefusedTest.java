import java.util.ArrayList;
import java.util.List;

/**
 * "A call that throws changes nothing", and one that answers false neither. Each refused
 * call is made on an object whose twin is spared it; then both are asked all that an
 * object can be asked, what is told last (the text, the room that is left) by using it up.
 */
public final class RefusedTest {
    private static final long FAR = 100000;
    private static final long HEAVY = 1000000;
    private static final String STATE = "throws.IllegalStateException";
    private static final String ARGUMENT = "throws.IllegalArgumentException";
    private static final String INDEX = "throws.IndexOutOfBoundsException";

    /** Makes an object in the state that a refused call is made in. */
    private interface Maker {
        StandTests make();
    }

    /** A call that is due to be refused; its answer, if it has one. */
    private interface Refused {
        Object call(StandTests s);
    }

    /** A question; its answer is compared as a text, an exception by its name. */
    private interface Question {
        Object ask();
    }

    private final String state;
    private final Maker maker;
    private final long[] person;
    private final List<String> due;

    private RefusedTest(String state, Maker maker, long... person) {
        this.state = state;
        this.maker = maker;
        this.person = person;
        this.due = answers(maker.make(), person);
    }

    public static void main(String[] args) {
        onNew();
        onALine();
        onSome();
        onFull();
        onALongText();
        textsThatCannotBeRead();
        Check.done("RefusedTest");
    }

    private static StandTests line() {
        StandTests s = Made.withFeet(0, 0, 5, 5, 2, 2, 9, 9);
        s.part(4, 5, 6, 0);
        s.drawer(0, 3);
        Made.read(s, "1,2,3,0");
        Made.write(s, "4,5,6,0");
        return s;
    }

    private static StandTests some() {
        StandTests s = Made.withFeet(0, 0, 10, 0, 10, 8, -1, 9);
        s.part(5, 4, 3, 50);
        s.part(4, 6, 2, 30);
        s.part(6, 3, 1, 20);
        s.drawer(1, 5);
        s.drawer(0, 6);
        s.person(5, 7, 11);
        Made.read(s, "5,4,7,1;-3,4,99,99;5,99,3,0");
        Made.write(s, "1,2,3,4;5,6,7,8");
        return s;
    }

    private static StandTests full() {
        StandTests s = Made.withFeet(3, 0, 5, 1, 6, 3, 6, 6, 5, 8, 3, 9, 0, 9, -2, 8, -3, 6, -3, 3, -2, 1, 0, 0);
        for (int i = 0; i < 16; i++) {
            s.part(2, 4, i, 10 + i);
        }
        for (int i = 0; i < 8; i++) {
            s.drawer(15 - i, i + 4);
        }
        s.person(1, 6, 40);
        Made.read(s, Made.tests(12));
        return s;
    }

    private static StandTests longText() {
        StandTests s = Made.table(10, 8);
        Made.write(s, "-99999,-99999,99999,99999;".repeat(7) + "-1234,-12345,123,1");
        return s;
    }

    private static void onNew() {
        RefusedTest t = new RefusedTest("new", StandTests::new, 0, 0, 0);
        t.wrongNumbers();
        t.noPolygon();
        t.noFourFeet();
        t.noGrams();
        t.after("no part", INDEX, s -> s.drawer(0, 1));
        t.after("no test", INDEX, s -> s.test(0, 0));
        t.after("the same person", "false", s -> s.person(0, 0, 0));
    }

    private static void onALine() {
        RefusedTest t = new RefusedTest("on a line", RefusedTest::line, 0, 0, 0);
        t.wrongNumbers();
        t.wrongOut(0);
        t.noPolygon();
        t.noFourFeet();
        t.noGrams();
        t.after("no part 1", INDEX, s -> s.drawer(1, 1));
        t.after("it is a drawer", "false", s -> s.drawer(0, 8));
        t.after("test without a polygon", STATE, s -> s.test(0, 0));
        t.after("no such what", ARGUMENT, s -> s.test(0, 3));
    }

    private static void onSome() {
        RefusedTest t = new RefusedTest("some of each", RefusedTest::some, 5, 7, 11);
        t.wrongNumbers();
        t.wrongOut(0);
        t.wrongOut(2);
        t.wrongQuestions(3, 4, 2);
        t.wrongHeights();
        t.after("the same person", "false", s -> s.person(5, 7, 11));
        t.after("no part 3", INDEX, s -> s.drawer(3, 1));
        t.after("drawer of part -1", INDEX, s -> s.drawer(-1, 1));
        t.after("it is a drawer", "false", s -> s.drawer(1, 90));
        t.after("it is the other drawer", "false", s -> s.drawer(0, 90));
    }

    private static void onFull() {
        RefusedTest t = new RefusedTest("full", RefusedTest::full, 1, 6, 40);
        t.wrongOut(0);
        t.wrongOut(15);
        t.wrongQuestions(12, 12, 8);
        t.wrongHeights();
        t.after("a 17th part", STATE, s -> s.part(50, 50, 50, HEAVY));
        t.after("a 17th part, wrong", STATE, s -> s.part(FAR + 1, 50, 50, HEAVY));
        t.after("a 13th foot", "false", s -> s.foot(50, 50));
        t.after("a 13th foot, as foot 0", "false", s -> s.foot(3, 0));
        t.after("a 13th foot, wrong", ARGUMENT, s -> s.foot(50, FAR + 1));
        t.after("a 9th drawer", "false", s -> s.drawer(0, 50));
        t.after("a 9th drawer, wrong", ARGUMENT, s -> s.drawer(0, FAR + 1));
        t.after("a 9th drawer of no part", INDEX, s -> s.drawer(16, 50));
        t.after("it is a drawer", "false", s -> s.drawer(15, 50));
        t.after("the same person", "false", s -> s.person(1, 6, 40));
        t.after("person", ARGUMENT, s -> s.person(2, 7, HEAVY + 1));
    }

    private static void onALongText() {
        RefusedTest t = new RefusedTest("a text of 200", RefusedTest::longText, 0, 0, 0);
        t.wrongUnits();
        t.after("a digit more", "false", s -> s.unit('5'));
        t.after("a ; more", "false", s -> s.unit(';'));
    }

    private void wrongNumbers() {
        long[] outside = {FAR + 1, -FAR - 1, Long.MIN_VALUE, Long.MAX_VALUE, (1L << 32) + 3};
        for (long v : outside) {
            after("part x " + v, ARGUMENT, s -> s.part(v, 1, 1, 9));
            after("part y " + v, ARGUMENT, s -> s.part(1, v, 1, 9));
            after("part z " + v, ARGUMENT, s -> s.part(1, 1, v, 9));
            after("foot x " + v, ARGUMENT, s -> s.foot(v, 7));
            after("foot y " + v, ARGUMENT, s -> s.foot(7, v));
            after("person x " + v, ARGUMENT, s -> s.person(v, 2, 9));
            after("person y " + v, ARGUMENT, s -> s.person(2, v, 9));
        }
        for (long v : new long[] {-1, HEAVY + 1, Long.MIN_VALUE, Long.MAX_VALUE, (1L << 32) + 3}) {
            after("part grams " + v, ARGUMENT, s -> s.part(1, 1, 1, v));
            after("person grams " + v, ARGUMENT, s -> s.person(2, 2, v));
        }
        after("bend", ARGUMENT, s -> s.bend(-1, 1, 1, 1));
        after("creep", ARGUMENT, s -> s.creep(-2));
        wrongUnits();
    }

    private void wrongUnits() {
        for (int u : new int[] {31, 127, -1, 0, 256 + '0', 65536 + '0', Integer.MIN_VALUE, Integer.MAX_VALUE}) {
            after("unit " + u, "false", s -> s.unit(u));
        }
    }

    private void wrongOut(int part) {
        for (long v : new long[] {0, -1, FAR + 1, Long.MIN_VALUE, Long.MAX_VALUE, (1L << 32) + 3}) {
            after("part " + part + " out " + v, ARGUMENT, s -> s.drawer(part, v));
        }
    }

    private void noPolygon() {
        after("side without a polygon", STATE, s -> s.side(0));
        after("tips without a polygon", STATE, s -> s.tips(0));
        after("moment without a polygon", STATE, s -> s.moment(0, 0));
        after("most without a polygon", STATE, s -> s.most());
        after("anchor without a polygon", STATE, s -> s.anchor());
    }

    private void noFourFeet() {
        after("wobble without a plane", STATE, s -> s.wobble(0, 0, 0, 0));
        after("wobble without a plane, wrong", STATE, s -> s.wobble(1001, 0, 0, 0));
    }

    private void noGrams() {
        after("centre without grams", STATE, s -> s.centre(0, 0));
        after("centre of no axis", INDEX, s -> s.centre(3, 0));
        after("centre of no part2", INDEX, s -> s.centre(0, -1));
    }

    private void wrongQuestions(int tests, int corners, int drawers) {
        after("side -1", INDEX, s -> s.side(-1));
        after("tips -1", ARGUMENT, s -> s.tips(-1));
        after("tips with one too many", ARGUMENT, s -> s.tips(drawers + 1));
        after("moment of side -1", INDEX, s -> s.moment(-1, 0));
        after("moment of a side behind", INDEX, s -> s.moment(corners, 0));
        after("moment of which 2", INDEX, s -> s.moment(0, 2));
        after("test -1", INDEX, s -> s.test(-1, 0));
        after("test behind", INDEX, s -> s.test(tests, 0));
        after("test of what 3", ARGUMENT, s -> s.test(0, 3));
        after("centre of axis 3", INDEX, s -> s.centre(3, 0));
        after("centre of part2 2", INDEX, s -> s.centre(0, 2));
    }

    private void wrongHeights() {
        for (long v : new long[] {1001, -1001, Long.MIN_VALUE}) {
            after("z1 " + v, ARGUMENT, s -> s.wobble(v, 0, 0, 0));
            after("z2 " + v, ARGUMENT, s -> s.wobble(0, v, 0, 0));
            after("z3 " + v, ARGUMENT, s -> s.wobble(0, 0, v, 0));
            after("z4 " + v, ARGUMENT, s -> s.wobble(0, 0, 0, v));
        }
    }

    /** The refused call is made twice, as one refusal may not change the next one either. */
    private void after(String what, String outcome, Refused refused) {
        StandTests s = maker.make();
        String told = state + ", " + what;
        Check.sameText(told, answer(() -> refused.call(s)), outcome);
        Check.sameText(told + ", again", answer(() -> refused.call(s)), outcome);
        List<String> got = answers(s, person);
        for (int i = 0; i < due.size(); i++) {
            Check.sameText("after " + told + ": answer " + i, got.get(i), due.get(i));
        }
    }

    private static String answer(Question question) {
        try {
            return String.valueOf(question.ask());
        } catch (RuntimeException e) {
            return Check.thrown(e);
        }
    }

    private static void ask(List<String> answers, String what, Question question) {
        answers.add(what + ": " + answer(question));
    }

    private static List<String> answers(StandTests s, long... person) {
        List<String> answers = new ArrayList<>();
        askWhatStays(answers, s);
        ask(answers, "rules", s::rules);
        askTests(answers, s);
        for (int i = 0; i < 16; i++) {
            int part = i;
            ask(answers, "drawer " + i, () -> s.drawer(part, 1));
        }
        askTips(answers, s);
        for (int i = 0; i < 12; i++) {
            int far = 20 + i;
            ask(answers, "foot more " + i, () -> s.foot(far, far * far));
        }
        askSides(answers, s);
        for (int i = 0; i < 17; i++) {
            ask(answers, "part more " + i, () -> s.part(1, 2, 3, 5));
        }
        askCentre(answers, s);
        ask(answers, "the same person", () -> s.person(person[0], person[1], person[2]));
        return answers;
    }

    private static void askWhatStays(List<String> answers, StandTests s) {
        askCentre(answers, s);
        askSides(answers, s);
        askTips(answers, s);
        for (int k = 0; k < 13; k++) {
            int side = k;
            ask(answers, "moment without " + k, () -> s.moment(side, 0));
            ask(answers, "moment with " + k, () -> s.moment(side, 1));
        }
        ask(answers, "most", s::most);
        ask(answers, "wobble", () -> s.wobble(3, 50, -700, 9));
        askTests(answers, s);
    }

    private static void askCentre(List<String> answers, StandTests s) {
        for (int i = 0; i < 6; i++) {
            int axis = i / 2;
            int part2 = i % 2;
            ask(answers, "centre " + axis + " " + part2, () -> s.centre(axis, part2));
        }
    }

    private static void askSides(List<String> answers, StandTests s) {
        for (int k = 0; k < 13; k++) {
            int side = k;
            ask(answers, "side " + k, () -> s.side(side));
        }
    }

    private static void askTips(List<String> answers, StandTests s) {
        for (int i = 0; i <= 9; i++) {
            int open = i;
            ask(answers, "tips " + i, () -> s.tips(open));
        }
    }

    private static void askTests(List<String> answers, StandTests s) {
        for (int i = 0; i < 13; i++) {
            int k = i;
            ask(answers, "test " + k + " stands", () -> s.test(k, 0));
            ask(answers, "test " + k + " grams", () -> s.test(k, 1));
            ask(answers, "test " + k + " drawers", () -> s.test(k, 2));
        }
        ask(answers, "anchor", s::anchor);
    }

    /** "is empty then, also if it can't be read"; "then the tests stay as before" */
    private static void textsThatCannotBeRead() {
        String[] texts = {"", ";", "1,2,3", "1,2,3,4;", "1,2,3,4;5,6,7,", "1,2,3,4;5,6,7,8 ", "9,9,9,9;9,9,999999,9",
            Made.tests(12) + ";", "-", "~"};
        StandTests spared = full();
        List<String> due = answers(spared, 1, 6, 40);
        for (String text : texts) {
            StandTests s = full();
            int answered = Made.read(s, text);
            Check.same("it can't be read: " + text, answered < 0, true);
            List<String> got = answers(s, 1, 6, 40);
            for (int i = 0; i < due.size(); i++) {
                Check.sameText("after the text " + text + ": answer " + i, got.get(i), due.get(i));
            }
        }
    }
}

import java.io.IOException;
import java.nio.file.Files;
import java.nio.file.Path;
import java.util.LinkedHashMap;
import java.util.Map;

/** Each call that README.md tells an answer of has that answer, and none is left out here. */
public final class ReadmeTest {
    private static final String MARK = ";";
    private static final String ANSWER = "// ";
    private static final String TEXT = "String text = \"";

    private final Map<String, String> told = new LinkedHashMap<>();
    private String text = "";

    private ReadmeTest() {
    }

    public static void main(String[] args) throws IOException {
        ReadmeTest readme = new ReadmeTest();
        for (String line : Files.readAllLines(Path.of("README.md"))) {
            readme.take(line);
        }
        StandTests chest = new StandTests();
        readme.feet(chest);
        readme.parts(chest);
        readme.person(chest);
        readme.tests(chest);
        readme.numbersAlone(chest);
        Check.sameText("told in README.md and not asked here", readme.told.keySet().toString(), "[]");
        Check.done("ReadmeTest");
    }

    /** Of a line such as "chest.tips(1);  // 3: it tips" the call, and what stands before the colon. */
    private void take(String line) {
        int end = line.indexOf(MARK);
        int answer = line.indexOf(ANSWER);
        if (line.startsWith(TEXT)) {
            text = line.substring(TEXT.length(), line.lastIndexOf('"'));
        } else if (end > 0 && answer > end) {
            told.put(line.substring(0, end), line.substring(answer + ANSWER.length()).split(":")[0]);
        }
    }

    private void says(String call, Object answered) {
        String answer = told.remove(call);
        Check.sameText("README.md, " + call, String.valueOf(answered), String.valueOf(answer));
    }

    private void feet(StandTests chest) {
        says("chest.foot(0, 0)", chest.foot(0, 0));
        says("chest.foot(80, 0)", chest.foot(80, 0));
        says("chest.foot(80, 40)", chest.foot(80, 40));
        says("chest.foot(0, 40)", chest.foot(0, 40));
        says("chest.side(0)", chest.side(0));
        says("chest.side(4)", chest.side(4));
    }

    private void parts(StandTests chest) {
        says("int body = chest.part(40, 20, 50, 20000)", chest.part(40, 20, 50, 20000));
        int box = chest.part(40, 20, 70, 6000);
        says("int box = chest.part(40, 20, 70, 6000)", box);
        says("chest.drawer(box, 90)", chest.drawer(box, 90));
        says("chest.tips(0)", chest.tips(0));
        says("chest.tips(1)", chest.tips(1));
        says("chest.most()", chest.most());
        says("chest.centre(2, 0)", chest.centre(2, 0));
        says("chest.centre(2, 1)", chest.centre(2, 1));
    }

    private void person(StandTests chest) {
        says("chest.person(40, 45, 3000)", chest.person(40, 45, 3000));
        says("chest.moment(2, 0)", chest.moment(2, 0));
        says("chest.moment(2, 1)", chest.moment(2, 1));
    }

    private void tests(StandTests chest) {
        Made.write(chest, text);
        says("chest.rules()", chest.rules());
        says("chest.test(0, 0)", chest.test(0, 0));
        says("chest.test(0, 1)", chest.test(0, 1));
        says("chest.test(1, 2)", chest.test(1, 2));
        says("chest.test(1, 0)", chest.test(1, 0));
        says("chest.anchor()", chest.anchor());
    }

    private void numbersAlone(StandTests chest) {
        says("chest.wobble(0, 0, 0, 2)", chest.wobble(0, 0, 0, 2));
        says("chest.bend(10, 2, 1, 8)", chest.bend(10, 2, 1, 8));
        says("chest.creep(2)", chest.creep(2));
        says("chest.gap(10)", chest.gap(10));
        says("chest.gap(100)", chest.gap(100));
        says("chest.gap(50)", chest.gap(50));
    }
}

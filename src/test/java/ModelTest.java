/** Long runs of calls, each asked of the class and of the model; the runs are always the same. */
public final class ModelTest {
    private static final int RUNS = 3000;
    private static final int CALLS = 512;
    private static final int CALLS_BEHIND_TEXT = 5;
    private static final long[] WILD = {Long.MIN_VALUE, Long.MAX_VALUE, Integer.MIN_VALUE, Integer.MAX_VALUE,
        1L << 32, -(1L << 32), 100000, 100001, -100000, -100001, 1000000, 1000001, 1000, 1001, -1000, -1001, 0, -1};
    private static final double[] SIZES = {0, -0.0, 0.125, 0.1249, 1000, 1000.5, 10000, 10000.5, -1, Double.NaN,
        Double.POSITIVE_INFINITY, Double.NEGATIVE_INFINITY, 0.3, 7.7, Double.MIN_VALUE, Double.MAX_VALUE};

    private long seed;
    private int reach;
    private int wildness;

    private ModelTest(long seed) {
        this.seed = seed;
    }

    public static void main(String[] args) {
        for (int run = 0; run < RUNS; run++) {
            new ModelTest(run * 7919L + 1).run(run);
        }
        Check.done("ModelTest");
    }

    private int below(int bound) {
        seed = seed * 6364136223846793005L + 1442695040888963407L;
        return (int) ((seed >>> 33) % bound);
    }

    private long place() {
        if (below(wildness) == 0) {
            return WILD[below(WILD.length)];
        }
        return below(2 * reach + 1) - reach;
    }

    private long grams() {
        if (below(wildness) == 0) {
            return WILD[below(WILD.length)];
        }
        return below(4) == 0 ? 0 : below(reach > 1000 ? 1000001 : 30);
    }

    private int small(int bound) {
        return below(wildness) == 0 ? (int) WILD[below(WILD.length)] : below(bound + 2) - 1;
    }

    private double size() {
        return below(6) == 0 ? SIZES[below(SIZES.length)] : (below(1000000) + 1) / 1009.0;
    }

    private void run(int run) {
        int[] reaches = {2, 3, 6, 20, 1000, 100000};
        reach = reaches[run % reaches.length];
        wildness = run % 5 == 0 ? 10 : 60;
        StandTests asked = new StandTests();
        Model model = new Model();
        int left = CALLS;
        while (left > 0) {
            left -= left > CALLS_BEHIND_TEXT && below(5) == 0 ? text(run, asked, model, left) : call(run, asked, model);
        }
    }

    private void compare(int run, String call, Asking asked, Asking model) {
        Check.sameText("run " + run + ": " + call, answer(asked), answer(model).replace("machine ", ""));
    }

    /** A call whose answer is taken as a text, so that answers of all types compare alike. */
    private interface Asking {
        String ask();
    }

    private static String answer(Asking asking) {
        try {
            return asking.ask();
        } catch (RuntimeException e) {
            return Check.thrown(e);
        }
    }

    private int call(int run, StandTests s, Model m) {
        long a = place();
        long b = place();
        long c = place();
        long g = grams();
        int i = small(9);
        int j = small(2);
        double d = size();
        double e = size();
        double f = size();
        double h = size();
        switch (below(17)) {
            case 0 -> compare(run, "part", () -> "" + s.part(a, b, c, g), () -> "" + m.part(a, b, c, g));
            case 1, 2 -> compare(run, "foot", () -> "" + s.foot(a, b), () -> "" + m.foot(a, b));
            case 3 -> compare(run, "drawer", () -> "" + s.drawer(i, a), () -> "" + m.drawer(i, a));
            case 4 -> compare(run, "person", () -> "" + s.person(a, b, g), () -> "" + m.person(a, b, g));
            case 5 -> compare(run, "centre", () -> "" + s.centre(j, (int) (g & 1)),
                () -> "" + m.centre(j, (int) (g & 1)));
            case 6 -> compare(run, "centre wild", () -> "" + s.centre(i, j), () -> "" + m.centre(i, j));
            case 7 -> compare(run, "side", () -> "" + s.side(i), () -> "" + m.side(i));
            case 8 -> compare(run, "tips", () -> "" + s.tips(i), () -> "" + m.tips(i));
            case 9 -> compare(run, "moment", () -> "" + s.moment(i, j), () -> "" + m.moment(i, j));
            case 10 -> compare(run, "most", () -> "" + s.most(), () -> "" + m.most());
            case 11 -> compare(run, "test", () -> "" + s.test(i, j), () -> "" + m.test(i, j));
            case 12 -> compare(run, "anchor", () -> "" + s.anchor(), () -> "" + m.anchor());
            case 13 -> compare(run, "wobble", () -> "" + s.wobble(a % 1003, b, c, g),
                () -> "" + m.wobble(a % 1003, b, c, g));
            case 14 -> compare(run, "bend", () -> "" + s.bend(d, e, f, h), () -> "" + m.bend(d, e, f, h));
            case 15 -> compare(run, "creep", () -> "" + s.creep(i * 113), () -> "" + m.creep(i * 113));
            default -> compare(run, "gap", () -> "" + s.gap(a), () -> "" + m.gap(a));
        }
        return 1;
    }

    private int text(int run, StandTests s, Model m, int left) {
        String text = tests(1 + below(below(6) == 0 ? 13 : 3));
        if (below(3) == 0 && !text.isEmpty()) {
            text = spoilt(text);
        }
        int used = 0;
        for (int at = 0; at < text.length() && used < left - CALLS_BEHIND_TEXT; at++) {
            int u = text.charAt(at);
            compare(run, "unit " + u, () -> "" + s.unit(u), () -> "" + m.unit(u));
            used++;
        }
        String whole = text;
        compare(run, "rules of " + whole, () -> "" + s.rules(), () -> "" + m.rules());
        for (int k = 0; k < 3; k++) {
            int test = below(13);
            int what = below(3);
            compare(run, "test", () -> "" + s.test(test, what), () -> "" + m.test(test, what));
        }
        compare(run, "anchor", () -> "" + s.anchor(), () -> "" + m.anchor());
        return used + CALLS_BEHIND_TEXT;
    }

    private String tests(int count) {
        StringBuilder text = new StringBuilder();
        for (int i = 0; i < count; i++) {
            text.append(i == 0 ? "" : ";").append(number(true)).append(',').append(number(true)).append(',')
                .append(number(false)).append(',').append(below(10));
        }
        return text.toString();
    }

    private String number(boolean signed) {
        String sign = signed && below(3) == 0 ? "-" : "";
        return sign + below(below(2) == 0 ? 10 : Math.min(99999, 3 * reach));
    }

    private String spoilt(String text) {
        int at = below(text.length() + 1);
        String odd = ";,-0123456789 ./:~x".charAt(below(19)) + "";
        switch (below(3)) {
            case 0:
                return text.substring(0, at);
            case 1:
                return text.substring(0, at) + odd + text.substring(at);
            default:
                return text.substring(0, at) + odd + text.substring(Math.min(at + 1, text.length()));
        }
    }
}

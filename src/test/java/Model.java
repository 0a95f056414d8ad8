import java.math.BigInteger;
import java.util.ArrayList;
import java.util.Collections;
import java.util.List;
import java.util.regex.Matcher;
import java.util.regex.Pattern;

/**
 * The document told a second time by other means, so that a slip in the class is not
 * repeated here: corners from sorted chains, sums in BigInteger, the text by a pattern.
 */
final class Model {
    private static final String TRIAL = "-?\\d{1,5},-?\\d{1,5},\\d{1,5},\\d{1,5}";
    private static final Pattern TEXT = Pattern.compile(TRIAL + "(;" + TRIAL + "){0,11}");

    private final List<long[]> parts = new ArrayList<>();
    private final List<long[]> feet = new ArrayList<>();
    private final List<Integer> drawers = new ArrayList<>();
    private final List<Long> outs = new ArrayList<>();
    private List<long[]> tests = new ArrayList<>();
    private long[] person = {0, 0, 0};
    private String text = "";

    private static boolean isPlace(long v) {
        return v >= -100000 && v <= 100000;
    }

    private static boolean isGrams(long v) {
        return v >= 0 && v <= 1000000;
    }

    private static void argument(boolean good) {
        if (!good) {
            throw new IllegalArgumentException();
        }
    }

    private static void index(boolean good) {
        if (!good) {
            throw new IndexOutOfBoundsException();
        }
    }

    private static void state(boolean good) {
        if (!good) {
            throw new IllegalStateException();
        }
    }

    int part(long x, long y, long z, long grams) {
        state(parts.size() < 16);
        argument(isPlace(x) && isPlace(y) && isPlace(z) && isGrams(grams));
        parts.add(new long[] {x, y, z, grams});
        return parts.size() - 1;
    }

    boolean foot(long x, long y) {
        argument(isPlace(x) && isPlace(y));
        return feet.size() < 12 && feet.add(new long[] {x, y, feet.size()});
    }

    boolean drawer(int part, long out) {
        index(part >= 0 && part < parts.size());
        argument(out >= 1 && out <= 100000);
        if (drawers.size() == 8 || drawers.contains(part)) {
            return false;
        }
        outs.add(out);
        return drawers.add(part);
    }

    boolean person(long x, long y, long grams) {
        argument(isPlace(x) && isPlace(y) && isGrams(grams));
        boolean other = person[0] != x || person[1] != y || person[2] != grams;
        person = new long[] {x, y, grams};
        return other;
    }

    long centre(int axis, int part2) {
        index(axis >= 0 && axis <= 2 && part2 >= 0 && part2 <= 1);
        BigInteger grams = BigInteger.valueOf(person[2]);
        BigInteger sum = axis == 2 ? BigInteger.ZERO : grams.multiply(BigInteger.valueOf(person[axis]));
        for (long[] p : parts) {
            grams = grams.add(BigInteger.valueOf(p[3]));
            sum = sum.add(BigInteger.valueOf(p[3]).multiply(BigInteger.valueOf(p[axis])));
        }
        state(grams.signum() > 0);
        return (part2 == 0 ? sum : grams).divide(sum.gcd(grams)).longValueExact();
    }

    int side(int k) {
        List<long[]> corners = polygon();
        index(k >= 0);
        return k < corners.size() ? (int) corners.get(k)[2] : -1;
    }

    int tips(int open) {
        polygon();
        argument(open >= 0 && open <= drawers.size());
        return verdict(open, person);
    }

    long moment(int side, int which) {
        int count = polygon().size();
        index(side >= 0 && side < count && which >= 0 && which <= 1);
        return momentOf(side, 0, which == 1 ? person : new long[3]).longValueExact();
    }

    int most() {
        polygon();
        int open = -1;
        while (open < drawers.size() && verdict(open + 1, person) == 0) {
            open++;
        }
        return open;
    }

    boolean unit(int u) {
        if (u < 32 || u > 126 || text.length() == 200) {
            return false;
        }
        text += (char) u;
        return true;
    }

    int rules() {
        String told = text;
        text = "";
        if (!TEXT.matcher(told).matches()) {
            return -1 - lengthThatMayStand(told);
        }
        tests = new ArrayList<>();
        for (String one : told.split(";")) {
            String[] n = one.split(",");
            tests.add(new long[] {Long.parseLong(n[0]), Long.parseLong(n[1]), Long.parseLong(n[2]),
                Long.parseLong(n[3])});
        }
        return tests.size();
    }

    private static int lengthThatMayStand(String told) {
        int length = 0;
        while (length < told.length()) {
            Matcher m = TEXT.matcher(told.substring(0, length + 1));
            if (!m.matches() && !m.hitEnd()) {
                break;
            }
            length++;
        }
        return length;
    }

    int test(int k, int what) {
        index(k >= 0 && k < tests.size());
        argument(what >= 0 && what <= 2);
        long[] t = tests.get(k);
        int open = (int) Math.min(t[3], drawers.size());
        if (what != 0) {
            return what == 1 ? (int) t[2] : open;
        }
        polygon();
        return verdict(open, t);
    }

    boolean anchor() {
        polygon();
        for (int k = 0; k < tests.size(); k++) {
            if (test(k, 0) != 0) {
                return true;
            }
        }
        return false;
    }

    double wobble(long z1, long z2, long z3, long z4) {
        state(feet.size() >= 4);
        long[] o = feet.get(0);
        long[] p2 = {feet.get(1)[0] - o[0], feet.get(1)[1] - o[1]};
        long[] p3 = {feet.get(2)[0] - o[0], feet.get(2)[1] - o[1]};
        long[] p4 = {feet.get(3)[0] - o[0], feet.get(3)[1] - o[1]};
        long d = p2[0] * p3[1] - p2[1] * p3[0];
        state(d != 0);
        for (long z : new long[] {z1, z2, z3, z4}) {
            argument(z >= -1000 && z <= 1000);
        }
        long above = (z2 - z1) * (p4[0] * p3[1] - p4[1] * p3[0]) + (z3 - z1) * (p2[0] * p4[1] - p2[1] * p4[0]);
        return Math.abs((z4 - z1) - (double) above / d);
    }

    double bend(double span, double width, double thick, double load) {
        argument(load >= 0 && load <= 10000 && span >= 0 && span <= 10000);
        argument(width >= 0.125 && width <= 1000 && thick >= 0.125 && thick <= 1000);
        double below = ((width * thick) * thick) * thick;
        return ((((0.15625 * load) * span) * span) * span) / below;
    }

    double creep(int years) {
        argument(years >= 0 && years <= 1000);
        return 1.0 + (0.5 * years) / (years + 2.0);
    }

    int gap(long v) {
        return 5 < v && v < 25 ? 1 : 89 < v && v < 230 ? 2 : 0;
    }

    private int verdict(int open, long[] who) {
        for (int k = 0; k < polygon().size(); k++) {
            if (momentOf(k, open, who).signum() < 0) {
                return 1 + k;
            }
        }
        return 0;
    }

    private BigInteger momentOf(int side, int open, long[] who) {
        List<long[]> corners = polygon();
        long[] a = corners.get(side);
        long[] b = corners.get((side + 1) % corners.size());
        BigInteger sum = turn(a, b, who).multiply(BigInteger.valueOf(who[2]));
        for (int i = 0; i < parts.size(); i++) {
            long[] p = parts.get(i).clone();
            int drawer = drawers.indexOf(i);
            if (drawer >= 0 && drawer < open) {
                p[1] += outs.get(drawer);
            }
            sum = sum.add(turn(a, b, p).multiply(BigInteger.valueOf(p[3])));
        }
        return sum;
    }

    private static BigInteger turn(long[] a, long[] b, long[] p) {
        BigInteger one = BigInteger.valueOf(b[0] - a[0]).multiply(BigInteger.valueOf(p[1] - a[1]));
        return one.subtract(BigInteger.valueOf(b[1] - a[1]).multiply(BigInteger.valueOf(p[0] - a[0])));
    }

    /** The lower chain from the least foot to the greatest, then the upper one back. */
    private List<long[]> polygon() {
        List<long[]> sorted = new ArrayList<>(feet);
        sorted.sort((a, b) -> a[0] != b[0] ? Long.compare(a[0], b[0])
            : a[1] != b[1] ? Long.compare(a[1], b[1]) : Long.compare(a[2], b[2]));
        for (int i = sorted.size() - 1; i > 0; i--) {
            if (sorted.get(i)[0] == sorted.get(i - 1)[0] && sorted.get(i)[1] == sorted.get(i - 1)[1]) {
                sorted.remove(i);
            }
        }
        state(sorted.size() >= 3);
        List<long[]> corners = chain(sorted);
        Collections.reverse(sorted);
        corners.addAll(chain(sorted));
        state(corners.size() >= 3);
        return corners;
    }

    private static List<long[]> chain(List<long[]> sorted) {
        List<long[]> chain = new ArrayList<>();
        for (long[] p : sorted) {
            while (chain.size() >= 2
                && turn(chain.get(chain.size() - 2), chain.get(chain.size() - 1), p).signum() <= 0) {
                chain.remove(chain.size() - 1);
            }
            chain.add(p);
        }
        chain.remove(chain.size() - 1);
        return chain;
    }
}

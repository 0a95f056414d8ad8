import java.util.ArrayList;

/** Whether furniture stands on its feet; README.md says how it is used. */
public final class StandTests {
    public static final int NONE = -1;

    private static final int MOST_PARTS = 16;
    private static final int MOST_FEET = 12;
    private static final int MOST_DRAWERS = 8;
    private static final int MOST_TESTS = 12;
    private static final int MOST_CHARACTERS = 200;
    private static final int MOST_DIGITS = 5;
    private static final int LEAST_CORNERS = 3;
    private static final int MOST_YEARS = 1000;
    private static final long FARTHEST = 100000;
    private static final long HEAVIEST = 1000000;
    private static final long HIGHEST = 1000;
    // Euclid's steps for two longs stay below this.
    private static final int MOST_STEPS = 100;

    private final ArrayList<Load> parts;
    private final ArrayList<Foot> feet;
    // Empty as long as there is no polygon.
    private final ArrayList<Side> sides;
    private final StringBuilder text;
    private final Load nobody;
    private ArrayList<Trial> trials;
    private Load leaning;
    private int drawerCount;

    public StandTests() {
        parts = new ArrayList<Load>();
        feet = new ArrayList<Foot>();
        sides = new ArrayList<Side>();
        text = new StringBuilder();
        nobody = new Load(0, 0, 0, 0);
        trials = new ArrayList<Trial>();
        leaning = nobody;
        drawerCount = 0;
    }

    public int part(long x, long y, long z2, long grams) throws IllegalStateException, IllegalArgumentException {
        if (parts.size() >= MOST_PARTS) {
            throw new IllegalStateException("no room for a part");
        }
        needPlace(x);
        needPlace(y);
        needPlace(z2);
        needGrams(grams);
        parts.add(new Load(x, y, z2, grams));
        return parts.size() - 1;
    }

    public boolean foot(long x, long y) throws IllegalArgumentException {
        needPlace(x);
        needPlace(y);
        if (feet.size() >= MOST_FEET) {
            return false;
        }
        Foot added = new Foot(feet.size(), x, y);
        feet.add(added);
        layOutSides(added);
        return true;
    }

    public boolean drawer(int part, long out) throws IndexOutOfBoundsException, IllegalArgumentException {
        if (part < 0 || part >= parts.size()) {
            throw new IndexOutOfBoundsException("no such part");
        }
        if (!isWithin(out, 1, FARTHEST)) {
            throw new IllegalArgumentException("a drawer can't go out so far");
        }
        Load load = parts.get(part);
        if (drawerCount >= MOST_DRAWERS || load.drawer != NONE) {
            return false;
        }
        load.drawer = drawerCount;
        load.out = out;
        drawerCount++;
        return true;
    }

    public boolean person(long x, long y, long grams) throws IllegalArgumentException {
        needPlace(x);
        needPlace(y);
        needGrams(grams);
        if (leaning.x == x && leaning.y == y && leaning.grams == grams) {
            return false;
        }
        leaning = new Load(x, y, 0, grams);
        return true;
    }

    public long centre(int axis, int part2) throws IndexOutOfBoundsException, IllegalStateException {
        if (axis < 0 || axis > 2) {
            throw new IndexOutOfBoundsException("no such axis");
        }
        if (part2 < 0 || part2 > 1) {
            throw new IndexOutOfBoundsException("a fraction has no such part");
        }
        long grams = leaning.grams;
        long sum = leaning.grams * leaning.placeOn(axis);
        for (int i = 0; i < parts.size(); i++) {
            Load load = parts.get(i);
            grams += load.grams;
            sum += load.grams * load.placeOn(axis);
        }
        if (grams == 0) {
            throw new IllegalStateException("no grams");
        }
        long divisor = commonDivisor(grams, Math.abs(sum));
        return part2 == 0 ? sum / divisor : grams / divisor;
    }

    public int side(int k) throws IllegalStateException, IndexOutOfBoundsException {
        needPolygon();
        if (k < 0) {
            throw new IndexOutOfBoundsException("no such side");
        }
        return k < sides.size() ? sides.get(k).from.number : NONE;
    }

    public int tips(int drawers) throws IllegalStateException, IllegalArgumentException {
        needPolygon();
        if (drawers < 0 || drawers > drawerCount) {
            throw new IllegalArgumentException("not so many drawers");
        }
        return verdict(drawers, leaning);
    }

    public long moment(int side, int which) throws IllegalStateException, IndexOutOfBoundsException {
        needPolygon();
        if (side < 0 || side >= sides.size()) {
            throw new IndexOutOfBoundsException("no such side");
        }
        if (which < 0 || which > 1) {
            throw new IndexOutOfBoundsException("with the person or without");
        }
        return momentOver(sides.get(side), 0, which == 1 ? leaning : nobody);
    }

    public int most() throws IllegalStateException {
        needPolygon();
        int standing = NONE;
        for (int open = 0; open <= drawerCount && verdict(open, leaning) == 0; open++) {
            standing = open;
        }
        return standing;
    }

    public boolean unit(int u) {
        if (u < 32 || u > 126 || text.length() >= MOST_CHARACTERS) {
            return false;
        }
        text.append((char) u);
        return true;
    }

    public int rules() {
        TrialReader reader = new TrialReader(text);
        boolean whole = reader.readTrials();
        text.setLength(0);
        if (!whole) {
            return -1 - reader.place;
        }
        trials = reader.trials;
        return trials.size();
    }

    public int test(int k, int what)
            throws IndexOutOfBoundsException, IllegalArgumentException, IllegalStateException {
        if (k < 0 || k >= trials.size()) {
            throw new IndexOutOfBoundsException("no such test");
        }
        if (what < 0 || what > 2) {
            throw new IllegalArgumentException("a test tells no such thing");
        }
        Trial trial = trials.get(k);
        if (what == 1) {
            return (int) trial.person.grams;
        }
        if (what == 2) {
            return openDrawers(trial);
        }
        needPolygon();
        return verdict(openDrawers(trial), trial.person);
    }

    public boolean anchor() throws IllegalStateException {
        needPolygon();
        for (int i = 0; i < trials.size(); i++) {
            Trial trial = trials.get(i);
            if (verdict(openDrawers(trial), trial.person) != 0) {
                return true;
            }
        }
        return false;
    }

    public double wobble(long z1, long z2, long z3, long z4)
            throws IllegalStateException, IllegalArgumentException {
        if (feet.size() < 4) {
            throw new IllegalStateException("not four feet");
        }
        Foot first = feet.get(0);
        Foot second = feet.get(1);
        Foot third = feet.get(2);
        Foot fourth = feet.get(3);
        long whole = first.turn(second, third);
        if (whole == 0) {
            throw new IllegalStateException("three feet on a line bear no plane");
        }
        needHeight(z1);
        needHeight(z2);
        needHeight(z3);
        needHeight(z4);
        long raised = (z2 - z1) * first.turn(fourth, third) + (z3 - z1) * first.turn(second, fourth);
        double off = (double) (z4 - z1) - (double) raised / (double) whole;
        return off < 0 ? -off : off;
    }

    public double bend(double span, double width, double thick, double load) throws IllegalArgumentException {
        if (!isSize(load, 0, 10000) || !isSize(span, 0, 10000)) {
            throw new IllegalArgumentException("load or span is out of its range");
        }
        if (!isSize(width, 0.125, 1000) || !isSize(thick, 0.125, 1000)) {
            throw new IllegalArgumentException("width or thick is out of its range");
        }
        double stiffness = width * thick * thick * thick;
        return 0.15625 * load * span * span * span / stiffness;
    }

    public double creep(int years) throws IllegalArgumentException {
        if (years < 0 || years > MOST_YEARS) {
            throw new IllegalArgumentException("years are out of their range");
        }
        return 1 + 0.5 * years / (years + 2);
    }

    public int gap(long v) {
        if (v > 5 && v < 25) {
            return 1;
        }
        return v > 89 && v < 230 ? 2 : 0;
    }

    private static boolean isWithin(long v, long least, long greatest) {
        return v >= least && v <= greatest;
    }

    // Asked this way round, what is not a number is refused too.
    private static boolean isSize(double v, double least, double greatest) {
        return v >= least && v <= greatest;
    }

    private static void needPlace(long v) {
        if (!isWithin(v, -FARTHEST, FARTHEST)) {
            throw new IllegalArgumentException("a place is out of its range");
        }
    }

    private static void needGrams(long v) {
        if (!isWithin(v, 0, HEAVIEST)) {
            throw new IllegalArgumentException("grams are out of their range");
        }
    }

    private static void needHeight(long v) {
        if (!isWithin(v, -HIGHEST, HIGHEST)) {
            throw new IllegalArgumentException("a height is out of its range");
        }
    }

    private void needPolygon() {
        if (sides.isEmpty()) {
            throw new IllegalStateException("no polygon");
        }
    }

    // At least 1, so that it can always be divided by.
    private static long commonDivisor(long a, long b) {
        long greater = a;
        long rest = b;
        for (int step = 0; step < MOST_STEPS && rest != 0; step++) {
            long next = greater % rest;
            greater = rest;
            rest = next;
        }
        return greater < 1 ? 1 : greater;
    }

    private int openDrawers(Trial trial) {
        return trial.drawersTold < drawerCount ? trial.drawersTold : drawerCount;
    }

    private int verdict(int open, Load who) {
        for (int k = 0; k < sides.size(); k++) {
            if (momentOver(sides.get(k), open, who) < 0) {
                return 1 + k;
            }
        }
        return 0;
    }

    private long momentOver(Side side, int open, Load who) {
        long sum = who.momentAbout(side, 0);
        for (int i = 0; i < parts.size(); i++) {
            sum += parts.get(i).momentAbout(side, open);
        }
        return sum;
    }

    private void layOutSides(Foot added) {
        sides.clear();
        ArrayList<Foot> corners = cornersAgainstClock(firstCorner(added));
        int count = corners.size();
        if (count < LEAST_CORNERS) {
            return;
        }
        for (int k = 0; k < count; k++) {
            int next = k + 1 < count ? k + 1 : 0;
            sides.add(new Side(corners.get(k), corners.get(next)));
        }
    }

    private Foot firstCorner(Foot any) {
        Foot first = any;
        for (int i = 0; i < feet.size(); i++) {
            Foot foot = feet.get(i);
            if (foot.isBefore(first)) {
                first = foot;
            }
        }
        return first;
    }

    private ArrayList<Foot> cornersAgainstClock(Foot first) {
        ArrayList<Foot> corners = new ArrayList<Foot>();
        Foot corner = first;
        for (int i = 0; i < feet.size(); i++) {
            corners.add(corner);
            corner = cornerAfter(corner);
            if (corner.number == first.number) {
                break;
            }
        }
        return corners;
    }

    // From a corner all feet lie within less than half a turn, so one of them
    // has none to its right: the next corner.
    private Foot cornerAfter(Foot corner) {
        Foot best = corner;
        for (int i = 0; i < feet.size(); i++) {
            Foot foot = feet.get(i);
            if (corner.seesMoreRightOf(best, foot)) {
                best = foot;
            }
        }
        return best;
    }

    /** A part, or a person: what weighs at a place. */
    private static final class Load {
        private final long x;
        private final long y;
        private final long z;
        private final long grams;
        private int drawer;
        private long out;

        private Load(long x, long y, long z, long grams) {
            this.x = x;
            this.y = y;
            this.z = z;
            this.grams = grams;
            this.drawer = NONE;
            this.out = 0;
        }

        private long placeOn(int axis) {
            if (axis == 0) {
                return x;
            }
            return axis == 1 ? y : z;
        }

        private long momentAbout(Side line, int open) {
            boolean isOut = drawer != NONE && drawer < open;
            return grams * line.turnTo(x, isOut ? y + out : y);
        }
    }

    /** A foot under its number. */
    private static final class Foot {
        private final int number;
        private final long x;
        private final long y;

        private Foot(int number, long x, long y) {
            this.number = number;
            this.x = x;
            this.y = y;
        }

        private boolean isBefore(Foot other) {
            if (x != other.x) {
                return x < other.x;
            }
            return y != other.y ? y < other.y : number < other.number;
        }

        private boolean isAt(Foot other) {
            return x == other.x && y == other.y;
        }

        private long turn(Foot a, Foot b) {
            return (a.x - x) * (b.y - y) - (a.y - y) * (b.x - x);
        }

        private long squareTo(Foot other) {
            return (other.x - x) * (other.x - x) + (other.y - y) * (other.y - y);
        }

        // Of feet on one line the farthest is the corner; of feet at one place
        // the earlier one stays the best, as it has the lesser number.
        private boolean seesMoreRightOf(Foot best, Foot other) {
            if (isAt(other)) {
                return false;
            }
            if (isAt(best)) {
                return true;
            }
            long turned = turn(best, other);
            return turned < 0 || turned == 0 && squareTo(other) > squareTo(best);
        }
    }

    /** A side of the polygon, from a corner to the next one. */
    private static final class Side {
        private final Foot from;
        private final Foot to;

        private Side(Foot from, Foot to) {
            this.from = from;
            this.to = to;
        }

        private long turnTo(long x, long y) {
            return (to.x - from.x) * (y - from.y) - (to.y - from.y) * (x - from.x);
        }
    }

    /** A test of the text: a person, and how many drawers are told as open. */
    private static final class Trial {
        private final Load person;
        private final int drawersTold;

        private Trial(Load person, int drawersTold) {
            this.person = person;
            this.drawersTold = drawersTold;
        }
    }

    /** Reads tests from a text; stays at the place of what it can't read. */
    private static final class TrialReader {
        private final StringBuilder text;
        private final ArrayList<Trial> trials;
        private int place;
        private int number;

        private TrialReader(StringBuilder text) {
            this.text = text;
            this.trials = new ArrayList<Trial>();
            this.place = 0;
            this.number = 0;
        }

        private boolean readTrials() {
            for (int i = 0; i < MOST_TESTS; i++) {
                if (i > 0 && !skip(';')) {
                    return false;
                }
                if (!readTrial()) {
                    return false;
                }
                if (place >= text.length()) {
                    return true;
                }
            }
            return false;
        }

        private boolean readTrial() {
            if (!readSigned() || !skip(',')) {
                return false;
            }
            int x = number;
            if (!readSigned() || !skip(',')) {
                return false;
            }
            int y = number;
            if (!readDigits() || !skip(',')) {
                return false;
            }
            int grams = number;
            if (!readDigits()) {
                return false;
            }
            trials.add(new Trial(new Load(x, y, 0, grams), number));
            return true;
        }

        private boolean readSigned() {
            boolean below = skip('-');
            boolean read = readDigits();
            if (below) {
                number = -number;
            }
            return read;
        }

        private boolean readDigits() {
            number = 0;
            int digits = 0;
            int digit = digitHere();
            while (digits < MOST_DIGITS && digit != NONE) {
                number = 10 * number + digit;
                place++;
                digits++;
                digit = digitHere();
            }
            return digits > 0;
        }

        private int digitHere() {
            if (place >= text.length()) {
                return NONE;
            }
            int digit = text.charAt(place) - '0';
            return digit >= 0 && digit <= 9 ? digit : NONE;
        }

        private boolean skip(char c) {
            if (place >= text.length() || text.charAt(place) != c) {
                return false;
            }
            place++;
            return true;
        }
    }
}

/** Each number that a call takes: the last value that is taken and the first that is refused, on each side. */
public final class BoundsTest {
    private static final int BAD = -1, FULL = -3, NONE = -4, CAST = -13, GAIN_BAD = -100001;
    /** Numbers that a shift, a byte or a short takes for a lesser one. */
    private static final int[] WRAPS = {32, 64, 256, 65536, 1 << 30, Integer.MIN_VALUE};
    private static final int[] PART_COUNTS = {0, 1, 2, 7, 8}, HOLE_COUNTS = {0, 1, 5, 11, 12}, MEND_COUNTS = {0, 1, 3, 7, 8};

    private static int wrong = 0;

    private interface Call {
        int answer(int n);
    }

    public static void main(String[] args) {
        part();
        link();
        guard();
        version();
        holeKind();
        holePart();
        holeVersions();
        chainedPart();
        chainedVersions();
        chainedTo();
        wake();
        chain();
        told();
        way();
        mendPart();
        mendVersionAndHands();
        mendNeed();
        mendWeeks();
        quarrelParts();
        quarrelVersions();
        sets();
        gain();
        planWeeks();
        planHands();
        week();
        make();
        count();
        System.out.println(wrong == 0 ? "all bounds hold" : wrong + " answers are not as due");
        if (wrong != 0) System.exit(1);
    }

    private static void due(String call, int got, int want) {
        if (got == want) return;
        wrong++;
        System.out.println(call + " answered " + got + ", due is " + want);
    }

    /** All of least .. most are taken; the next on each side, the farthest, and what wraps to one of them are not. */
    private static void bounds(String call, int least, int most, Call asked, Call want, int refusal) {
        for (int n = least; n <= most; n++) due(call + " for n = " + n, asked.answer(n), want.answer(n));
        refused(call, least, most, least - 1, asked, refusal);
        refused(call, least, most, most + 1, asked, refusal);
        refused(call, least, most, Integer.MIN_VALUE, asked, refusal);
        refused(call, least, most, Integer.MAX_VALUE, asked, refusal);
        for (int wrap : WRAPS) {
            for (int n = least; n <= Math.max(least, most); n++) {
                refused(call, least, most, n + wrap, asked, refusal);
                refused(call, least, most, n - wrap, asked, refusal);
            }
        }
    }

    private static void refused(String call, int least, int most, int n, Call asked, int refusal) {
        if (n < least || n > most) due(call + " for n = " + n, asked.answer(n), refusal);
    }

    private static void bounds(String call, int least, int most, Call asked, Call want) {
        bounds(call, least, most, asked, want, BAD);
    }

    /** Open parts of version 1 and worth 10, without holes. */
    private static MendDesk parts(int count) {
        MendDesk desk = new MendDesk();
        for (int p = 0; p < count; p++) desk.part(1, 10, true);
        return desk;
    }

    /** One part and holes of one kind in it. */
    private static MendDesk holes(int count, int kind) {
        MendDesk desk = parts(1);
        for (int h = 0; h < count; h++) desk.hole(kind, 0, 1, 9);
        return desk;
    }

    /** A part with a hole for each mend, and the mends that close them, by one hand in any week. */
    private static MendDesk mends(int count) {
        MendDesk desk = parts(8);
        for (int k = 0; k < count; k++) {
            desk.hole(0, k, 1, 1);
            desk.mend(k, 2, 1, -1, 0, 5);
        }
        return desk;
    }

    private static void part() {
        bounds("part(n, 1, true)", 1, 9, n -> new MendDesk().part(n, 1, true), n -> 0);
        bounds("part(1, n, true)", 0, 1000, n -> new MendDesk().part(1, n, true), n -> 0);
        bounds("version(0, 1) behind part(n, 1, true)", 1, 9, n -> {
            MendDesk desk = new MendDesk();
            desk.part(n, 1, true);
            return desk.version(0, 1);
        }, n -> n);
        bounds("risk() with part(1, n, true)", 0, 1000, n -> {
            MendDesk desk = new MendDesk();
            desk.part(1, n, true);
            return desk.hole(0, 0, 1, 1) < 0 ? BAD : desk.risk();
        }, n -> n);
        bounds("part(1, 1, true) behind n others", 0, 7, n -> n < 0 || n > 8 ? FULL : parts(n).part(1, 1, true), n -> n, FULL);
    }

    private static void link() {
        for (int size : PART_COUNTS) {
            String of = " of " + size + " parts";
            // From and to must be two, so one alone can have none.
            int most = size < 2 ? -1 : size - 1;
            bounds("link(n, another, true)" + of, 0, most, n -> parts(size).link(n, n == 0 ? 1 : 0, true), n -> 0);
            bounds("link(another, n, true)" + of, 0, most, n -> parts(size).link(n == 0 ? 1 : 0, n, true), n -> 0);
            bounds("link(n, n, true)" + of, 0, -1, n -> parts(size).link(n, n, true), n -> BAD);
            for (int p = 0; p < size; p++) due("link(p, p, false)" + of, parts(size).link(p, p, false), BAD);
            for (int p = 0; p < size; p++) due("link(p, p, true)" + of, parts(size).link(p, p, true), BAD);
        }
    }

    private static void guard() {
        for (int size : PART_COUNTS) {
            bounds("guard(n, true) of " + size + " parts", 0, size - 1, n -> parts(size).guard(n, true), n -> 0);
            bounds("guard(n, false) of " + size + " parts", 0, size - 1, n -> parts(size).guard(n, false), n -> 0);
        }
    }

    private static void version() {
        for (int size : PART_COUNTS) {
            bounds("version(n, 9) of " + size + " parts", 0, size - 1, n -> parts(size).version(n, 9), n -> 1);
        }
        bounds("version(0, n)", 1, 9, n -> parts(1).version(0, n), n -> 1);
        bounds("version(0, n) and what it was", 1, 9, n -> {
            MendDesk desk = parts(1);
            return desk.version(0, n) < 0 ? BAD : desk.version(0, 1);
        }, n -> n);
    }

    private static void holeKind() {
        bounds("hole(n, 0, 1, 1)", 2, 4, n -> parts(1).hole(n, 0, 1, 1), n -> 0);
        due("hole(0, 0, 1, 1)", parts(1).hole(0, 0, 1, 1), 0);
        due("hole(-1, 0, 1, 1)", parts(1).hole(-1, 0, 1, 1), BAD);
        due("hole(1, 0, 1, 1), a chained one", parts(1).hole(1, 0, 1, 1), BAD);
        due("hole(5, 0, 1, 1)", parts(1).hole(5, 0, 1, 1), BAD);
    }

    private static void holePart() {
        for (int kind = 0; kind <= 4; kind++) {
            if (kind == 1) continue;
            int k = kind;
            for (int size : PART_COUNTS) {
                bounds("hole(" + k + ", n, 1, 1) of " + size, 0, size - 1, n -> parts(size).hole(k, n, 1, 1), n -> 0);
            }
            bounds("hole(" + k + ", 0, 1, 1) behind n others", 0, 11,
                n -> n < 0 || n > 12 ? FULL : holes(n, 0).hole(k, 0, 1, 1), n -> n, FULL);
        }
    }

    private static void holeVersions() {
        for (int kind = 0; kind <= 4; kind++) {
            if (kind == 1) continue;
            int k = kind;
            bounds("hole(" + k + ", 0, n, 9)", 1, 9, n -> parts(1).hole(k, 0, n, 9), n -> 0);
            bounds("hole(" + k + ", 0, 1, n)", 1, 9, n -> parts(1).hole(k, 0, 1, n), n -> 0);
            bounds("hole(" + k + ", 0, n, n)", 1, 9, n -> parts(1).hole(k, 0, n, n), n -> 0);
            for (int top = 1; top <= 9; top++) {
                int b = top;
                bounds("hole(" + k + ", 0, n, " + b + ")", 1, b, n -> parts(1).hole(k, 0, n, b), n -> 0);
                bounds("hole(" + k + ", 0, " + b + ", n)", b, 9, n -> parts(1).hole(k, 0, b, n), n -> 0);
            }
        }
    }

    private static void chainedPart() {
        for (int size : PART_COUNTS) {
            if (size == 0) continue;
            bounds("chained(n, 1, 1, 0) of " + size + " parts", 0, size - 1, n -> {
                MendDesk desk = parts(size);
                desk.hole(0, 0, 1, 1);
                return desk.chained(n, 1, 1, 0);
            }, n -> 1);
        }
        due("chained(0, 1, 1, 0) without parts", new MendDesk().chained(0, 1, 1, 0), BAD);
    }

    private static void chainedVersions() {
        for (int top = 1; top <= 9; top++) {
            int b = top;
            bounds("chained(0, n, " + b + ", 0)", 1, b, n -> holes(1, 0).chained(0, n, b, 0), n -> 1);
            bounds("chained(0, " + b + ", n, 0)", b, 9, n -> holes(1, 0).chained(0, b, n, 0), n -> 1);
        }
    }

    private static void chainedTo() {
        for (int size : HOLE_COUNTS) {
            int answer = size == 12 ? FULL : size;
            bounds("chained(0, 1, 1, n) behind " + size, 0, size - 1, n -> holes(size, 0).chained(0, 1, 1, n), n -> answer);
        }
        for (int kind = 0; kind <= 4; kind++) {
            if (kind != 1) due("chained(0, 1, 1, 0) to kind " + kind, holes(1, kind).chained(0, 1, 1, 0), 1);
        }
        MendDesk desk = holes(1, 0);
        for (int h = 1; h < 12; h++) due("chained(0, 1, 1, ..) to a chained one", desk.chained(0, 1, 1, h - 1), h);
        due("chained(0, 1, 1, 11) as thirteenth", desk.chained(0, 1, 1, 11), FULL);
    }

    private static void wake() {
        for (int size : HOLE_COUNTS) {
            bounds("wake(n, true) of " + size + " holes", 0, size - 1, n -> holes(size, 4).wake(n, true), n -> 0);
            bounds("wake(n, true) of others", 0, size - 1, n -> holes(size, 2).wake(n, true), n -> CAST);
        }
    }

    private static void chain() {
        for (int size : HOLE_COUNTS) {
            bounds("chain(n) of " + size + " holes", 0, size - 1, n -> {
                MendDesk desk = holes(Math.min(size, 1), 0);
                for (int h = 1; h < size; h++) desk.chained(0, 1, 1, h - 1);
                return desk.chain(n);
            }, n -> n == 0 ? CAST : n - 1);
        }
    }

    private static void told() {
        for (int size : HOLE_COUNTS) {
            for (int what = 0; what <= 4; what++) {
                int[] want = {3, 0, 1, 9, 1};
                int w = what;
                bounds("told(n, " + w + ") of " + size, 0, size - 1, n -> holes(size, 3).told(n, w), n -> want[w]);
            }
        }
        bounds("told(0, n)", 0, 4, n -> holes(1, 2).told(0, n), n -> new int[] {2, 0, 1, 9, 1}[n]);
    }

    private static void way() {
        for (int size : PART_COUNTS) {
            bounds("way(n, 0) of " + size + " not taken", 0, size - 1, n -> parts(size).way(n, 0), n -> NONE);
        }
        bounds("way(n, 1) of 8 taken", 0, 7, n -> mends(8).way(n, 1), n -> n);
        bounds("way(0, n)", 0, 2, n -> mends(1).way(0, n), n -> new int[] {1, 0, -1}[n]);
        bounds("way(0, n), not taken", 0, 2, n -> parts(1).way(0, n), n -> NONE);
    }

    private static void mendPart() {
        for (int size : PART_COUNTS) {
            bounds("mend(n, 2, 1, -1, 0, 5) of " + size, 0, size - 1, n -> parts(size).mend(n, 2, 1, -1, 0, 5), n -> 0);
        }
        bounds("mend(0, 2, 1, -1, 0, 5) behind n others", 0, 7,
            n -> n < 0 || n > 8 ? FULL : mends(n).mend(0, 2, 1, -1, 0, 5), n -> n, FULL);
    }

    private static void mendVersionAndHands() {
        bounds("mend(0, n, 1, -1, 0, 5)", 1, 9, n -> parts(1).mend(0, n, 1, -1, 0, 5), n -> 0);
        bounds("mend(0, 2, n, -1, 0, 5)", 1, 9, n -> parts(1).mend(0, 2, n, -1, 0, 5), n -> 0);
    }

    private static void mendNeed() {
        for (int size : MEND_COUNTS) {
            int answer = size == 8 ? FULL : size;
            bounds("mend(0, 2, 1, n, 0, 5) behind " + size, -1, size - 1, n -> mends(size).mend(0, 2, 1, n, 0, 5), n -> answer);
        }
    }

    private static void mendWeeks() {
        for (int edge = 0; edge <= 5; edge++) {
            int e = edge;
            bounds("mend(0, 2, 1, -1, n, " + e + ")", 0, e, n -> parts(1).mend(0, 2, 1, -1, n, e), n -> 0);
            bounds("mend(0, 2, 1, -1, " + e + ", n)", e, 5, n -> parts(1).mend(0, 2, 1, -1, e, n), n -> 0);
        }
        bounds("mend(0, 2, 1, -1, n, n)", 0, 5, n -> parts(1).mend(0, 2, 1, -1, n, n), n -> 0);
    }

    private static void quarrelParts() {
        for (int size : PART_COUNTS) {
            String of = " of " + size + " parts";
            int most = size < 2 ? -1 : size - 1;
            bounds("quarrel(n, 1, another, 1)" + of, 0, most, n -> parts(size).quarrel(n, 1, n == 0 ? 1 : 0, 1), n -> 1);
            bounds("quarrel(another, 1, n, 1)" + of, 0, most, n -> parts(size).quarrel(n == 0 ? 1 : 0, 1, n, 1), n -> 1);
            for (int p = 0; p < size; p++) due("quarrel(p, 1, p, 2)" + of, parts(size).quarrel(p, 1, p, 2), BAD);
        }
        bounds("quarrel(0, 1, 1, 1) behind n others", 0, 7, n -> {
            if (n < 0 || n > 8) return FULL;
            MendDesk desk = parts(2);
            for (int q = 0; q < n; q++) desk.quarrel(0, 9, 1, q + 1);
            return desk.quarrel(0, 1, 1, 1);
        }, n -> n + 1, FULL);
    }

    private static void quarrelVersions() {
        bounds("quarrel(0, n, 1, 1)", 1, 9, n -> parts(2).quarrel(0, n, 1, 1), n -> 1);
        bounds("quarrel(0, 1, 1, n)", 1, 9, n -> parts(2).quarrel(0, 1, 1, n), n -> 1);
    }

    private static void sets() {
        for (int size : MEND_COUNTS) {
            int most = (1 << size) - 1;
            String of = " of " + size + " mends";
            bounds("riskWith(n)" + of, 0, most, n -> mends(size).riskWith(n), n -> 10 * (size - Integer.bitCount(n)));
            bounds("sound(n)" + of, 0, most, n -> mends(size).sound(n), n -> 1);
            bounds("next(n)" + of, 0, most, n -> mends(size).next(n),
                n -> n == most ? NONE : Integer.numberOfTrailingZeros(~n));
        }
    }

    private static void gain() {
        for (int size : MEND_COUNTS) {
            String of = " of " + size + " mends";
            bounds("gain(n, 0)" + of, 0, size - 1, n -> mends(size).gain(n, 0), n -> 10, GAIN_BAD);
            if (size == 0) continue;
            bounds("gain(0, n)" + of, 0, (1 << size) - 1, n -> mends(size).gain(0, n), n -> n % 2 == 0 ? 10 : GAIN_BAD, GAIN_BAD);
        }
    }

    private static void planWeeks() {
        // One hand a week closes a hole of worth 10 in each.
        bounds("plan(n, 1)", 1, 6, n -> mends(6).plan(n, 1), n -> {
            int sum = 0;
            for (int week = 0; week <= n; week++) sum += 10 * (6 - week);
            return sum;
        });
        bounds("plan(n, 1) without parts", 1, 6, n -> new MendDesk().plan(n, 1), n -> 0);
    }

    private static void planHands() {
        bounds("plan(1, n)", 0, 99, n -> mends(8).plan(1, n), n -> 80 + 10 * Math.max(0, 8 - n));
        bounds("plan(1, n) without parts", 0, 99, n -> new MendDesk().plan(1, n), n -> 0);
        bounds("plan(1, n) with mends of 9 hands", 0, 99, n -> {
            MendDesk desk = parts(8);
            for (int k = 0; k < 8; k++) {
                desk.hole(0, k, 1, 1);
                desk.mend(k, 2, 9, -1, 0, 0);
            }
            return desk.plan(1, n);
        }, n -> 80 + 10 * Math.max(0, 8 - n / 9));
    }

    private static void week() {
        for (int size : MEND_COUNTS) {
            bounds("week(n) of " + size + " without a plan", 0, size - 1, n -> mends(size).week(n), n -> NONE);
            bounds("week(n) of " + size + " by a plan", 0, size - 1, n -> {
                MendDesk desk = mends(size);
                desk.plan(6, 1);
                return desk.week(n);
            }, n -> n < 6 ? n : NONE);
        }
    }

    private static void make() {
        for (int size : MEND_COUNTS) {
            bounds("make(n) of " + size + " mends", 0, size - 1, n -> mends(size).make(n), n -> 100010);
        }
    }

    private static void count() {
        bounds("count(n) without parts", 0, 5, n -> new MendDesk().count(n), n -> 0);
        bounds("count(n)", 0, 5, n -> mends(7).count(n), n -> new int[] {8, 7, 7, 0, 7, 7}[n]);
    }
}

/** Each promise of the document by hand: ordinary inputs, edges, wrong inputs. */
public final class PromiseTest {
    private static final int BAD = -1, NOT = -2, FULL = -3, NONE = -4, CAST = -13;
    private static final int GAIN_BAD = -100001;
    private static final int LOW = Integer.MIN_VALUE, HIGH = Integer.MAX_VALUE;

    private static int wrong = 0;
    private static String about = "";

    private static void due(String call, int got, int want) {
        if (got == want) return;
        wrong++;
        System.out.println(about + ": " + call + " answered " + got + ", due is " + want);
    }

    public static void main(String[] args) {
        newObject();
        parts();
        links();
        guards();
        versions();
        holes();
        chainedHoles();
        wakes();
        chains();
        toldOfHoles();
        risks();
        takenStepByStep();
        ways();
        waysOfChains();
        bestGuards();
        mends();
        quarrels();
        risksWith();
        sounds();
        gains();
        nexts();
        planSums();
        planRefusals();
        planTies();
        planLimits();
        planQuarrels();
        weeks();
        moves();
        makes();
        counts();
        System.out.println(wrong == 0 ? "all promises hold" : wrong + " answers are not as due");
        if (wrong != 0) System.exit(1);
    }

    /** Open parts of version 1, each with a plain hole of version 1. */
    private static MendDesk openParts(int... worths) {
        MendDesk desk = new MendDesk();
        for (int p = 0; p < worths.length; p++) {
            desk.part(1, worths[p], true);
            desk.hole(0, p, 1, 1);
        }
        return desk;
    }

    private static void newObject() {
        about = "1 a new object";
        MendDesk desk = new MendDesk();
        for (int what = 0; what <= 5; what++) due("count(" + what + ")", desk.count(what), 0);
        due("risk()", desk.risk(), 0);
        due("taken()", desk.taken(), 0);
        due("moved()", desk.moved(), NONE);
        due("bestGuard()", desk.bestGuard(), NONE);
        due("guard(0, true)", desk.guard(0, true), BAD);
        due("told(0, 0)", desk.told(0, 0), BAD);
        MendDesk other = new MendDesk();
        desk.part(1, 1, true);
        due("count(0) of another", other.count(0), 0);
    }

    private static void parts() {
        about = "2 part";
        MendDesk desk = new MendDesk();
        int[] versions = {0, 10, -1, LOW, HIGH};
        for (int v : versions) due("part(" + v + ", 1, true)", desk.part(v, 1, true), BAD);
        int[] worths = {-1, 1001, LOW, HIGH};
        for (int w : worths) due("part(1, " + w + ", true)", desk.part(1, w, true), BAD);
        due("count(0)", desk.count(0), 0);
        due("part(1, 0, true)", desk.part(1, 0, true), 0);
        due("part(9, 1000, false)", desk.part(9, 1000, false), 1);
        for (int p = 2; p < 8; p++) due("part(5, 5, true)", desk.part(5, 5, true), p);
        due("part(5, 5, true) as ninth", desk.part(5, 5, true), FULL);
        due("part(0, 5, true) as ninth", desk.part(0, 5, true), BAD);
        due("count(0)", desk.count(0), 8);
    }

    private static void links() {
        about = "3 link";
        MendDesk desk = openParts(1, 2);
        due("link(0, 1, false)", desk.link(0, 1, false), 0);
        due("link(0, 1, true)", desk.link(0, 1, true), 0);
        due("link(1, 0, true)", desk.link(1, 0, true), 0);
        due("link(0, 1, true)", desk.link(0, 1, true), 1);
        due("link(0, 1, false)", desk.link(0, 1, false), 1);
        due("link(0, 1, false)", desk.link(0, 1, false), 0);
        due("link(1, 0, false)", desk.link(1, 0, false), 1);
        due("link(1, 1, true)", desk.link(1, 1, true), BAD);
        int[] none = {-1, 2, 8, 32, LOW, HIGH};
        for (int n : none) {
            due("link(0, " + n + ", true)", desk.link(0, n, true), BAD);
            due("link(" + n + ", 0, true)", desk.link(n, 0, true), BAD);
        }
    }

    private static void guards() {
        about = "4 guard";
        MendDesk desk = openParts(1, 2);
        due("guard(1, false)", desk.guard(1, false), 0);
        due("guard(1, true)", desk.guard(1, true), 0);
        due("guard(1, true)", desk.guard(1, true), 1);
        due("guard(0, true)", desk.guard(0, true), 0);
        due("guard(1, false)", desk.guard(1, false), 1);
        due("guard(1, false)", desk.guard(1, false), 0);
        due("guard(0, false)", desk.guard(0, false), 1);
        int[] none = {-1, 2, 8, 32, LOW, HIGH};
        for (int n : none) due("guard(" + n + ", true)", desk.guard(n, true), BAD);
    }

    private static void versions() {
        about = "5 version";
        MendDesk desk = openParts(1, 2);
        due("version(1, 9)", desk.version(1, 9), 1);
        due("version(1, 2)", desk.version(1, 2), 9);
        due("version(0, 3)", desk.version(0, 3), 1);
        int[] bad = {0, 10, -1, LOW, HIGH};
        for (int v : bad) due("version(1, " + v + ")", desk.version(1, v), BAD);
        int[] none = {-1, 2, 8, LOW, HIGH};
        for (int n : none) due("version(" + n + ", 1)", desk.version(n, 1), BAD);
        due("version(1, 2)", desk.version(1, 2), 2);
    }

    private static void holes() {
        about = "6 hole";
        MendDesk desk = new MendDesk();
        due("hole(0, 0, 1, 1)", desk.hole(0, 0, 1, 1), BAD);
        desk.part(1, 1, true);
        int[] kinds = {-1, 1, 5, LOW, HIGH};
        for (int k : kinds) due("hole(" + k + ", 0, 1, 1)", desk.hole(k, 0, 1, 1), BAD);
        int[] none = {-1, 1, 8, LOW, HIGH};
        for (int n : none) due("hole(0, " + n + ", 1, 1)", desk.hole(0, n, 1, 1), BAD);
        int[][] spans = {{2, 1}, {9, 8}, {0, 1}, {0, 0}, {1, 10}, {10, 10}, {-1, 3}, {LOW, HIGH}, {HIGH, LOW}};
        for (int[] s : spans) due("hole(0, 0, " + s[0] + ", " + s[1] + ")", desk.hole(0, 0, s[0], s[1]), BAD);
        due("count(1)", desk.count(1), 0);
        int[] right = {0, 2, 3, 4};
        for (int h = 0; h < 12; h++) due("hole(..)", desk.hole(right[h % 4], 0, 1, 9), h);
        due("hole(0, 0, 1, 9) as thirteenth", desk.hole(0, 0, 1, 9), FULL);
        due("hole(1, 0, 1, 9) as thirteenth", desk.hole(1, 0, 1, 9), BAD);
        due("hole(0, 0, 2, 1) as thirteenth", desk.hole(0, 0, 2, 1), BAD);
        due("count(1)", desk.count(1), 12);
    }

    private static void chainedHoles() {
        about = "7 chained";
        MendDesk desk = new MendDesk();
        desk.part(1, 1, true);
        due("chained(0, 1, 1, 0) to itself", desk.chained(0, 1, 1, 0), BAD);
        due("chained(0, 1, 1, -1)", desk.chained(0, 1, 1, -1), BAD);
        desk.hole(4, 0, 1, 1);
        int[] none = {-1, 1, 12, LOW, HIGH};
        for (int n : none) {
            due("chained(0, 1, 1, " + n + ")", desk.chained(0, 1, 1, n), BAD);
            due("chained(" + n + ", 1, 1, 0)", desk.chained(n, 1, 1, 0), BAD);
        }
        int[][] spans = {{2, 1}, {0, 1}, {1, 10}, {LOW, HIGH}};
        for (int[] s : spans) due("chained(0, " + s[0] + ", " + s[1] + ", 0)", desk.chained(0, s[0], s[1], 0), BAD);
        for (int h = 1; h < 12; h++) due("chained(0, 1, 9, " + (h - 1) + ")", desk.chained(0, 1, 9, h - 1), h);
        due("chained(0, 1, 9, 11)", desk.chained(0, 1, 9, 11), FULL);
        due("chained(0, 1, 9, 12)", desk.chained(0, 1, 9, 12), BAD);
    }

    private static void wakes() {
        about = "8 wake";
        MendDesk desk = openParts(7);
        desk.hole(2, 0, 1, 1);
        desk.hole(3, 0, 1, 1);
        desk.hole(4, 0, 1, 1);
        desk.chained(0, 1, 1, 3);
        due("wake(3, false)", desk.wake(3, false), 0);
        due("wake(3, true)", desk.wake(3, true), 0);
        due("wake(3, true)", desk.wake(3, true), 1);
        due("told(3, 4)", desk.told(3, 4), 1);
        due("wake(3, false)", desk.wake(3, false), 1);
        due("told(3, 4)", desk.told(3, 4), 0);
        int[] others = {0, 1, 2, 4};
        for (int h : others) due("wake(" + h + ", true)", desk.wake(h, true), CAST);
        int[] none = {-1, 5, 12, LOW, HIGH};
        for (int n : none) due("wake(" + n + ", true)", desk.wake(n, true), BAD);
    }

    private static void chains() {
        about = "9 chain";
        MendDesk desk = openParts(7, 8);
        desk.hole(2, 0, 1, 1);
        desk.hole(3, 0, 1, 1);
        desk.hole(4, 0, 1, 1);
        desk.chained(0, 1, 1, 3);
        desk.chained(1, 1, 1, 5);
        due("chain(5)", desk.chain(5), 3);
        due("chain(6)", desk.chain(6), 5);
        for (int h = 0; h < 5; h++) due("chain(" + h + ")", desk.chain(h), CAST);
        int[] none = {-1, 7, 12, LOW, HIGH};
        for (int n : none) due("chain(" + n + ")", desk.chain(n), BAD);
    }

    private static void toldOfHoles() {
        about = "10 told";
        MendDesk desk = new MendDesk();
        desk.part(5, 1, false);
        desk.part(5, 1, false);
        desk.hole(0, 1, 4, 6);
        desk.chained(0, 1, 9, 0);
        desk.hole(2, 1, 5, 5);
        desk.hole(3, 1, 5, 9);
        desk.hole(4, 1, 1, 5);
        int[][] want = {{0, 1, 4, 6, 1}, {1, 0, 1, 9, 1}, {2, 1, 5, 5, 1}, {3, 1, 5, 9, 1}, {4, 1, 1, 5, 0}};
        for (int h = 0; h < 5; h++) {
            for (int w = 0; w < 5; w++) due("told(" + h + ", " + w + ")", desk.told(h, w), want[h][w]);
            int[] bad = {-1, 5, LOW, HIGH};
            for (int w : bad) due("told(" + h + ", " + w + ")", desk.told(h, w), BAD);
        }
        due("told(5, 0)", desk.told(5, 0), BAD);
        due("told(-1, 0)", desk.told(-1, 0), BAD);
        standsBy(desk, "version 4", 4, false, new int[] {1, 1, 0, 0, 1});
        standsBy(desk, "version 3", 3, false, new int[] {0, 1, 0, 0, 1});
        standsBy(desk, "version 6", 6, false, new int[] {1, 1, 0, 1, 0});
        standsBy(desk, "version 7", 7, false, new int[] {0, 1, 0, 1, 0});
        standsBy(desk, "a guard", 5, true, new int[] {1, 1, 0, 1, 1});
    }

    private static void standsBy(MendDesk desk, String why, int version, boolean guarded, int[] want) {
        desk.version(1, version);
        desk.guard(1, guarded);
        desk.wake(4, true);
        int standing = 0;
        for (int h = 0; h < want.length; h++) {
            due("told(" + h + ", 4) at " + why, desk.told(h, 4), want[h]);
            standing += want[h];
        }
        due("count(4) at " + why, desk.count(4), standing);
    }

    private static void risks() {
        about = "11 risk";
        MendDesk desk = openParts(1000, 1, 0);
        due("risk()", desk.risk(), 1001);
        desk.hole(3, 1, 2, 2);
        due("risk() with a used one that does not stand", desk.risk(), 1001);
        desk.hole(3, 1, 1, 1);
        desk.hole(3, 1, 1, 2);
        due("risk() with two used ones", desk.risk(), 1002);
        desk.guard(1, true);
        due("risk() with a guard", desk.risk(), 1002);
        desk.part(1, 500, false);
        desk.hole(3, 3, 1, 1);
        due("risk() with a used one that is not reached", desk.risk(), 1002);
        desk.link(2, 3, true);
        due("risk() with it reached", desk.risk(), 2002);
        desk.version(0, 2);
        due("risk() with part 0 mended", desk.risk(), 1002);
        MendDesk chain = openParts(5);
        chain.chained(0, 1, 1, 0);
        chain.hole(2, 0, 1, 1);
        due("risk() with a shielded one", chain.risk(), 5);
    }

    private static void takenStepByStep() {
        about = "12 taken";
        MendDesk desk = new MendDesk();
        for (int p = 0; p < 8; p++) desk.part(1, 1, p == 7);
        for (int p = 7; p > 0; p--) desk.link(p, p - 1, true);
        for (int p = 0; p < 8; p++) desk.hole(0, p, 1, 1);
        due("taken()", desk.taken(), 255);
        for (int p = 0; p < 8; p++) due("way(" + p + ", 0)", desk.way(p, 0), 8 - p);
        desk.link(4, 3, false);
        due("taken() with a link cut", desk.taken(), 0xF0);
        desk.link(3, 4, true);
        due("taken() with a link the wrong way", desk.taken(), 0xF0);
        desk.version(7, 2);
        due("taken() with the open one mended", desk.taken(), 0);
    }

    private static void ways() {
        about = "13 way";
        MendDesk desk = new MendDesk();
        desk.part(1, 1, false);
        desk.part(1, 1, true);
        desk.part(1, 1, true);
        desk.part(1, 1, false);
        desk.hole(0, 0, 2, 2);
        desk.hole(0, 0, 1, 1);
        desk.hole(0, 0, 1, 1);
        desk.hole(0, 2, 1, 1);
        desk.hole(0, 1, 1, 1);
        desk.link(2, 0, true);
        desk.link(1, 0, true);
        desk.link(3, 0, true);
        desk.link(1, 2, true);
        wayIs(desk, 0, 2, 1, 1);
        wayIs(desk, 1, 1, 4, -1);
        wayIs(desk, 2, 1, 3, -1);
        for (int w = 0; w < 3; w++) due("way(3, " + w + ")", desk.way(3, w), NONE);
        int[] bad = {-1, 3, LOW, HIGH};
        for (int w : bad) {
            due("way(0, " + w + ")", desk.way(0, w), BAD);
            due("way(3, " + w + ")", desk.way(3, w), BAD);
        }
        int[] none = {-1, 4, 8, LOW, HIGH};
        for (int n : none) due("way(" + n + ", 0)", desk.way(n, 0), BAD);
        desk.hole(0, 3, 1, 1);
        desk.link(0, 3, true);
        desk.link(2, 3, true);
        wayIs(desk, 3, 2, 5, 2);
        desk.link(1, 0, false);
        wayIs(desk, 0, 2, 1, 2);
    }

    private static void wayIs(MendDesk desk, int part, int step, int hole, int from) {
        due("way(" + part + ", 0)", desk.way(part, 0), step);
        due("way(" + part + ", 1)", desk.way(part, 1), hole);
        due("way(" + part + ", 2)", desk.way(part, 2), from);
    }

    private static void waysOfChains() {
        about = "13 way by chained ones";
        MendDesk desk = new MendDesk();
        desk.part(1, 1, true);
        desk.part(1, 1, true);
        desk.part(1, 1, false);
        desk.hole(0, 0, 1, 1);
        desk.chained(1, 1, 1, 0);
        desk.chained(1, 1, 1, 1);
        wayIs(desk, 1, 2, 1, -1);
        desk.chained(2, 1, 1, 2);
        due("way(2, 0) without a link", desk.way(2, 0), NONE);
        desk.link(0, 2, true);
        wayIs(desk, 2, 3, 3, 0);
        desk.link(1, 2, true);
        wayIs(desk, 2, 3, 3, 0);
        desk.version(1, 2);
        due("taken() as the one chained to does not stand", desk.taken(), 1);

        about = "12 taken by chains within one part";
        MendDesk one = new MendDesk();
        one.part(1, 1, true);
        one.hole(4, 0, 1, 9);
        one.chained(0, 1, 9, 0);
        one.chained(0, 1, 9, 1);
        due("taken()", one.taken(), 0);
        one.wake(0, true);
        due("taken()", one.taken(), 1);
        due("way(0, 1)", one.way(0, 1), 0);
        one.part(1, 1, true);
        one.hole(0, 1, 1, 1);
        one.chained(0, 1, 9, 3);
        one.chained(0, 1, 9, 4);
        one.wake(0, false);
        wayIs(one, 0, 2, 4, -1);

        about = "12 taken: the one chained to need only stand, if in another part";
        MendDesk two = new MendDesk();
        two.part(1, 1, true);
        two.part(1, 1, true);
        two.hole(4, 0, 1, 1);
        two.chained(0, 1, 1, 0);
        two.hole(0, 0, 1, 1);
        two.chained(1, 1, 1, 1);
        wayIs(two, 1, 2, 3, -1);
    }

    private static void bestGuards() {
        about = "14 bestGuard";
        MendDesk desk = new MendDesk();
        desk.part(1, 10, true);
        desk.part(1, 30, true);
        desk.part(1, 30, true);
        for (int p = 0; p < 3; p++) desk.hole(2, p, 1, 1);
        due("bestGuard()", desk.bestGuard(), 1);
        desk.guard(1, true);
        due("bestGuard()", desk.bestGuard(), 2);
        desk.guard(2, true);
        due("bestGuard()", desk.bestGuard(), 0);
        desk.part(1, 90, false);
        desk.hole(0, 3, 1, 1);
        desk.link(0, 3, true);
        desk.guard(2, false);
        due("bestGuard() with one behind", desk.bestGuard(), 0);
        due("risk() is as it was", desk.risk(), 130);
        due("guard(0, true)", desk.guard(0, true), 0);
        due("bestGuard()", desk.bestGuard(), 2);
        desk.guard(2, true);
        due("bestGuard() with all guarded", desk.bestGuard(), NONE);
        MendDesk used = new MendDesk();
        used.part(1, 10, true);
        used.hole(3, 0, 1, 1);
        used.hole(2, 0, 1, 1);
        due("bestGuard() of a used one", used.bestGuard(), NONE);
    }

    private static void mends() {
        about = "15 mend";
        MendDesk desk = new MendDesk();
        due("mend without parts", desk.mend(0, 1, 1, -1, 0, 0), BAD);
        desk.part(1, 1, true);
        int[] none = {-1, 1, 8, LOW, HIGH};
        for (int n : none) due("mend(part " + n + ")", desk.mend(n, 1, 1, -1, 0, 0), BAD);
        int[] bad = {0, 10, -1, LOW, HIGH};
        for (int n : bad) {
            due("mend(version " + n + ")", desk.mend(0, n, 1, -1, 0, 0), BAD);
            due("mend(hands " + n + ")", desk.mend(0, 1, n, -1, 0, 0), BAD);
        }
        int[] needs = {-2, 0, 1, 8, LOW, HIGH};
        for (int n : needs) due("mend(need " + n + ")", desk.mend(0, 1, 1, n, 0, 0), BAD);
        int[][] spans = {{-1, 0}, {0, 6}, {6, 6}, {3, 2}, {5, 0}, {0, -1}, {LOW, HIGH}, {HIGH, LOW}};
        for (int[] s : spans) due("mend(weeks " + s[0] + ", " + s[1] + ")", desk.mend(0, 1, 1, -1, s[0], s[1]), BAD);
        due("count(2)", desk.count(2), 0);
        due("mend", desk.mend(0, 9, 9, -1, 5, 5), 0);
        for (int k = 1; k < 8; k++) due("mend(need " + (k - 1) + ")", desk.mend(0, 1, 1, k - 1, 0, 5), k);
        due("mend as ninth", desk.mend(0, 1, 1, 7, 0, 5), FULL);
        due("mend as ninth, need 8", desk.mend(0, 1, 1, 8, 0, 5), BAD);
        due("count(2)", desk.count(2), 8);
    }

    private static void quarrels() {
        about = "16 quarrel";
        MendDesk desk = openParts(1, 1);
        due("quarrel(0, 1, 0, 2)", desk.quarrel(0, 1, 0, 2), BAD);
        int[] none = {-1, 2, 8, LOW, HIGH};
        for (int n : none) {
            due("quarrel(" + n + ", 1, 0, 1)", desk.quarrel(n, 1, 0, 1), BAD);
            due("quarrel(0, 1, " + n + ", 1)", desk.quarrel(0, 1, n, 1), BAD);
        }
        int[] bad = {0, 10, -1, LOW, HIGH};
        for (int v : bad) {
            due("quarrel(0, " + v + ", 1, 1)", desk.quarrel(0, v, 1, 1), BAD);
            due("quarrel(0, 1, 1, " + v + ")", desk.quarrel(0, 1, 1, v), BAD);
        }
        due("count(3)", desk.count(3), 0);
        for (int q = 1; q <= 8; q++) due("quarrel(1, 9, 0, 1)", desk.quarrel(1, 9, 0, 1), q);
        due("quarrel as ninth", desk.quarrel(1, 9, 0, 1), FULL);
        due("quarrel(1, 9, 1, 1) as ninth", desk.quarrel(1, 9, 1, 1), BAD);
        due("count(3)", desk.count(3), 8);
    }

    private static void risksWith() {
        about = "17 riskWith";
        MendDesk desk = openParts(10, 20);
        due("riskWith(0)", desk.riskWith(0), 30);
        due("riskWith(1)", desk.riskWith(1), BAD);
        desk.mend(0, 2, 1, -1, 0, 0);
        desk.mend(0, 4, 1, -1, 0, 0);
        desk.mend(0, 3, 1, 1, 0, 0);
        desk.hole(3, 0, 3, 3);
        desk.hole(0, 0, 4, 4);
        int[] want = {30, 20, 30, 30, 40, 40, 30, 30};
        for (int s = 0; s < 8; s++) due("riskWith(" + s + ")", desk.riskWith(s), want[s]);
        int[] bad = {-1, 8, 15, 256, LOW, HIGH};
        for (int s : bad) due("riskWith(" + s + ")", desk.riskWith(s), BAD);
        due("risk() is as it was", desk.risk(), 30);
        due("version(0, 5) is as it was", desk.version(0, 5), 1);
        for (int s = 0; s < 8; s++) due("riskWith(" + s + ") of a newer part", desk.riskWith(s), 20);
    }

    private static void sounds() {
        about = "18 sound";
        MendDesk desk = openParts(1, 1);
        desk.mend(0, 2, 1, -1, 0, 0);
        desk.mend(1, 2, 1, 0, 0, 0);
        desk.mend(1, 3, 1, 1, 0, 0);
        int[] needs = {1, 1, 0, 1, 0, 0, 0, 1};
        for (int s = 0; s < 8; s++) due("sound(" + s + ")", desk.sound(s), needs[s]);
        desk.quarrel(0, 2, 1, 2);
        int[] quarrels = {1, 1, 0, 0, 0, 0, 0, 1};
        for (int s = 0; s < 8; s++) due("sound(" + s + ") with a quarrel", desk.sound(s), quarrels[s]);
        desk.quarrel(1, 1, 0, 1);
        due("sound(0)", desk.sound(0), 0);
        due("sound(1)", desk.sound(1), 1);
        int[] bad = {-1, 8, 256, LOW, HIGH};
        for (int s : bad) due("sound(" + s + ")", desk.sound(s), BAD);
    }

    private static void gains() {
        about = "19 gain";
        MendDesk desk = openParts(100, 50);
        desk.hole(3, 1, 2, 2);
        desk.mend(0, 2, 1, -1, 0, 0);
        desk.mend(1, 2, 1, -1, 0, 0);
        desk.mend(1, 3, 1, 1, 0, 0);
        due("gain(0, 0)", desk.gain(0, 0), 100);
        due("gain(1, 0)", desk.gain(1, 0), -50);
        due("gain(2, 0)", desk.gain(2, 0), 50);
        due("gain(2, 2)", desk.gain(2, 2), 100);
        due("gain(1, 4)", desk.gain(1, 4), 0);
        for (int k = 0; k < 3; k++) due("gain(" + k + ", 7)", desk.gain(k, 7), GAIN_BAD);
        int[] none = {-1, 3, 8, 32, LOW, HIGH};
        for (int n : none) due("gain(" + n + ", 0)", desk.gain(n, 0), GAIN_BAD);
        int[] sets = {-1, 8, 256, LOW, HIGH};
        for (int s : sets) due("gain(0, " + s + ")", desk.gain(0, s), GAIN_BAD);
        desk.quarrel(0, 2, 1, 1);
        due("gain(0, 0) though not sound", desk.gain(0, 0), 100);
    }

    private static void nexts() {
        about = "20 next";
        MendDesk desk = openParts(10, 7, 5);
        due("next(0) without mends", desk.next(0), NONE);
        desk.mend(0, 2, 3, -1, 0, 0);
        desk.mend(1, 2, 2, -1, 0, 0);
        due("next(0): 10/3 is less than 7/2", desk.next(0), 1);
        desk.mend(2, 2, 1, 0, 0, 0);
        due("next(0): the need is not in it", desk.next(0), 1);
        due("next(1)", desk.next(1), 2);
        due("next(2)", desk.next(2), 0);
        due("next(5)", desk.next(5), 1);
        due("next(7)", desk.next(7), NONE);
        due("next(4): not sound by the need of one in it", desk.next(4), 0);
        int[] bad = {-1, 8, 256, LOW, HIGH};
        for (int s : bad) due("next(" + s + ")", desk.next(s), BAD);
        desk.quarrel(1, 2, 0, 1);
        due("next(0) with a quarrel", desk.next(0), 0);
        MendDesk like = openParts(10, 20);
        like.mend(1, 2, 8, -1, 0, 0);
        like.mend(0, 2, 4, -1, 0, 0);
        due("next(0) of like ones", like.next(0), 0);
        like.mend(1, 1, 1, -1, 0, 0);
        due("next(3) without a gain", like.next(3), NONE);
        MendDesk little = openParts(1, 1);
        little.mend(1, 2, 9, -1, 0, 0);
        due("next(0) with the least gain by the most hands", little.next(0), 0);
        little.mend(0, 2, 1, -1, 0, 0);
        due("next(0): 1/1 is more than 1/9", little.next(0), 1);
    }

    private static void planSums() {
        about = "21 plan";
        MendDesk desk = openParts(100, 10);
        desk.mend(0, 2, 2, -1, 1, 5);
        desk.mend(1, 2, 1, -1, 0, 5);
        due("plan(1, 9)", desk.plan(1, 9), 110 + 100);
        due("plan(2, 9)", desk.plan(2, 9), 110 + 100 + 0);
        due("plan(6, 9)", desk.plan(6, 9), 210);
        due("plan(6, 1)", desk.plan(6, 1), 110 + 6 * 100);
        due("plan(6, 2)", desk.plan(6, 2), 210);
        due("plan(3, 0)", desk.plan(3, 0), 4 * 110);
        due("plan(6, 99)", desk.plan(6, 99), 210);
        desk.mend(1, 3, 9, 0, 0, 0);
        due("plan(1, 9): the need cannot be in time", desk.plan(1, 9), 210);
    }

    private static void planRefusals() {
        about = "21 plan, refused";
        MendDesk desk = openParts(1, 1);
        desk.mend(0, 2, 1, -1, 0, 5);
        due("plan(2, 1)", desk.plan(2, 1), 2 + 1 + 1);
        int[] weeks = {0, 7, -1, LOW, HIGH};
        for (int w : weeks) due("plan(" + w + ", 1)", desk.plan(w, 1), BAD);
        int[] hands = {-1, 100, LOW, HIGH};
        for (int h : hands) due("plan(1, " + h + ")", desk.plan(1, h), BAD);
        desk.quarrel(0, 1, 1, 1);
        due("plan(1, 1)", desk.plan(1, 1), NOT);
        due("plan(0, 1)", desk.plan(0, 1), BAD);
        due("week(0) is as it was", desk.week(0), 0);
        due("moved() counts no refused one", desk.moved(), NONE);
        desk.version(1, 2);
        due("plan(1, 1)", desk.plan(1, 1), 1);
        due("moved()", desk.moved(), 0);
    }

    private static void planTies() {
        about = "21 plan, of like sums the first by weeks";
        MendDesk desk = openParts(10);
        desk.mend(0, 3, 1, -1, 0, 5);
        desk.mend(0, 2, 1, -1, 0, 5);
        desk.mend(0, 4, 1, -1, 0, 5);
        due("plan(2, 9)", desk.plan(2, 9), 10);
        weeksAre(desk, 0, NONE, NONE);
        MendDesk late = openParts(0, 10);
        late.mend(0, 2, 1, -1, 0, 5);
        late.mend(1, 2, 1, 0, 2, 5);
        due("plan(4, 9)", late.plan(4, 9), 30);
        weeksAre(late, 2, 2);
        due("plan(4, 1)", late.plan(4, 1), 30);
        weeksAre(late, 1, 2);
        MendDesk early = openParts(1000);
        early.mend(0, 1, 1, -1, 0, 5);
        due("plan(6, 99)", early.plan(6, 99), 7000);
        weeksAre(early, NONE);
        MendDesk bits = openParts(10, 10);
        bits.mend(1, 2, 1, -1, 0, 5);
        bits.mend(0, 2, 1, -1, 0, 5);
        due("plan(2, 1)", bits.plan(2, 1), 30);
        weeksAre(bits, 0, 1);
    }

    private static void planLimits() {
        about = "21 plan, hands, weeks and needs";
        MendDesk desk = openParts(100, 60, 50);
        desk.mend(0, 2, 5, -1, 0, 5);
        desk.mend(1, 2, 3, -1, 0, 5);
        desk.mend(2, 2, 2, -1, 0, 5);
        due("plan(1, 5)", desk.plan(1, 5), 210 + 100);
        weeksAre(desk, NONE, 0, 0);
        due("plan(2, 5)", desk.plan(2, 5), 210 + 100 + 0);
        weeksAre(desk, 1, 0, 0);
        due("plan(1, 4)", desk.plan(1, 4), 210 + 150);
        weeksAre(desk, NONE, 0, NONE);
        due("plan(1, 10)", desk.plan(1, 10), 210);
        weeksAre(desk, 0, 0, 0);
        MendDesk span = openParts(100);
        span.mend(0, 2, 1, -1, 1, 1);
        span.mend(0, 3, 2, -1, 3, 4);
        due("plan(1, 9)", span.plan(1, 9), 200);
        due("plan(4, 1)", span.plan(4, 1), 200);
        weeksAre(span, 1, NONE);
        span.hole(0, 0, 2, 2);
        due("plan(4, 2)", span.plan(4, 2), 400);
        weeksAre(span, NONE, 3);
        due("plan(3, 2)", span.plan(3, 2), 400);
        weeksAre(span, NONE, NONE);
        MendDesk worse = openParts(10, 100);
        worse.hole(3, 0, 2, 2);
        worse.mend(0, 2, 1, -1, 0, 0);
        worse.mend(1, 2, 1, 0, 0, 5);
        due("plan(3, 1): a loss first", worse.plan(3, 1), 110 + 120 + 20 + 20);
        weeksAre(worse, 0, 1);
    }

    private static void planQuarrels() {
        about = "21 plan, quarrels on the way";
        MendDesk desk = openParts(100, 90);
        desk.mend(0, 2, 1, -1, 0, 5);
        desk.mend(1, 2, 1, -1, 0, 5);
        desk.quarrel(0, 2, 1, 1);
        due("plan(2, 1)", desk.plan(2, 1), 190 + 100 + 0);
        weeksAre(desk, 1, 0);
        due("plan(2, 2)", desk.plan(2, 2), 190);
        weeksAre(desk, 0, 0);
        desk.quarrel(1, 2, 0, 1);
        due("plan(2, 1)", desk.plan(2, 1), 3 * 190);
        weeksAre(desk, NONE, NONE);
        due("plan(2, 2)", desk.plan(2, 2), 190);
        weeksAre(desk, 0, 0);
        desk.quarrel(0, 2, 1, 2);
        due("plan(2, 2)", desk.plan(2, 2), 3 * 190);
    }

    private static void weeksAre(MendDesk desk, int... want) {
        for (int k = 0; k < want.length; k++) due("week(" + k + ")", desk.week(k), want[k]);
    }

    private static void weeks() {
        about = "22 week";
        MendDesk desk = openParts(10, 20);
        due("week(0)", desk.week(0), BAD);
        desk.mend(0, 2, 1, -1, 5, 5);
        due("week(0) without a plan", desk.week(0), NONE);
        desk.plan(6, 1);
        due("week(0)", desk.week(0), 5);
        desk.mend(1, 2, 1, -1, 0, 5);
        due("week(1), newer", desk.week(1), NONE);
        due("week(2)", desk.week(2), BAD);
        desk.plan(1, 1);
        weeksAre(desk, NONE, 0);
        int[] none = {-1, 2, 8, LOW, HIGH};
        for (int n : none) due("week(" + n + ")", desk.week(n), BAD);
    }

    private static void moves() {
        about = "23 moved";
        MendDesk desk = openParts(10, 20);
        desk.mend(0, 2, 1, -1, 0, 5);
        desk.mend(1, 2, 1, -1, 0, 5);
        desk.plan(2, 1);
        due("moved() after one", desk.moved(), NONE);
        due("plan(7, 1)", desk.plan(7, 1), BAD);
        due("moved() after a refused one", desk.moved(), NONE);
        desk.plan(2, 1);
        due("moved() by the same", desk.moved(), 0);
        desk.plan(2, 2);
        due("moved() to another week", desk.moved(), 1);
        desk.hole(0, 1, 2, 2);
        due("moved() stays till a new plan", desk.moved(), 1);
        desk.plan(2, 2);
        due("moved() to none", desk.moved(), 2);
        desk.mend(1, 3, 1, -1, 0, 5);
        desk.plan(2, 1);
        due("moved() with a newer one", desk.moved(), 5);
        weeksAre(desk, 1, NONE, 0);
    }

    private static void makes() {
        about = "24 make";
        MendDesk desk = openParts(10, 20);
        desk.mend(0, 3, 1, -1, 0, 5);
        desk.mend(1, 2, 1, 0, 0, 5);
        desk.mend(0, 2, 1, -1, 5, 5);
        int[] none = {-1, 3, 8, LOW, HIGH};
        for (int n : none) due("make(" + n + ")", desk.make(n), BAD);
        due("make(1) ahead of its need", desk.make(1), NOT);
        desk.version(0, 2);
        due("make(1), its need's part below", desk.make(1), NOT);
        desk.version(0, 4);
        due("make(1), its need's part above", desk.make(1), 100020);
        desk.version(1, 1);
        desk.version(0, 3);
        due("make(1), its need's part like it", desk.make(1), 100020);
        due("make(1) again", desk.make(1), 100000);
        due("make(2), below", desk.make(2), 100000);
        due("version(0, 1)", desk.version(0, 1), 3);
        due("make(0)", desk.make(0), 100010);
        due("version(0, 1)", desk.version(0, 1), 3);
        due("count(2)", desk.count(2), 3);
        desk.hole(3, 0, 2, 2);
        due("make(2), for the worse", desk.make(2), 99990);
        desk.quarrel(1, 2, 0, 3);
        due("make(0) with a quarrel", desk.make(0), NOT);
        due("version(0, 2) is as it was", desk.version(0, 2), 2);
        desk.quarrel(0, 2, 1, 2);
        due("make(2) with one that holds before and then", desk.make(2), NOT);
        desk.version(1, 1);
        due("make(0) without", desk.make(0), 100020);
        due("count(3)", desk.count(3), 2);

        about = "24 make, plans stay";
        MendDesk plans = openParts(10);
        plans.mend(0, 2, 1, -1, 1, 5);
        plans.plan(2, 1);
        due("make(0)", plans.make(0), 100010);
        due("week(0)", plans.week(0), 1);
        due("riskWith(1)", plans.riskWith(1), 0);
        plans.plan(2, 1);
        due("week(0)", plans.week(0), NONE);
        due("moved()", plans.moved(), 1);
    }

    private static void counts() {
        about = "25 count";
        MendDesk desk = openParts(1, 2, 3);
        desk.hole(4, 0, 1, 1);
        desk.version(2, 2);
        desk.mend(0, 1, 1, -1, 0, 0);
        desk.mend(0, 1, 1, -1, 0, 0);
        desk.quarrel(0, 1, 1, 2);
        int[] want = {3, 4, 2, 1, 2, 2};
        for (int w = 0; w < 6; w++) due("count(" + w + ")", desk.count(w), want[w]);
        desk.wake(3, true);
        due("count(4)", desk.count(4), 3);
        due("count(5)", desk.count(5), 2);
        int[] bad = {-1, 6, LOW, HIGH};
        for (int w : bad) due("count(" + w + ")", desk.count(w), BAD);
    }
}

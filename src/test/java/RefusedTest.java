import java.util.ArrayList;
import java.util.List;

/** Of several refusals the first that a call names is answered; and what is refused changes nothing. */
public final class RefusedTest {
    private static final int BAD = -1, NOT = -2, FULL = -3, NONE = -4, CAST = -13, GAIN_BAD = -100001;
    private static final int LOW = Integer.MIN_VALUE, HIGH = Integer.MAX_VALUE;
    private static final int MOST_CALLS = 512;
    /** Due of a call whose answer is looked at elsewhere. */
    private static final int ANY = Integer.MIN_VALUE;

    private static int wrong = 0;

    private interface World {
        void build(Desk desk);
    }

    private interface Call {
        int on(MendDesk desk);
    }

    private record Refusal(String call, int due, Call made) { }

    /** Counts the calls, as nothing is promised beyond the 512th. */
    private static final class Desk {
        private final MendDesk desk = new MendDesk();
        private int calls = 0;

        int call(Call made) {
            calls++;
            if (calls > MOST_CALLS) throw new IllegalStateException("the test makes too many calls");
            return made.on(desk);
        }
    }

    public static void main(String[] args) {
        partBadAheadOfFull();
        holeBadAheadOfFull();
        chainedBadAheadOfFull();
        mendBadAheadOfFull();
        quarrelBadAheadOfFull();
        wayBadAheadOfNone();
        nextBadAheadOfNone();
        planBadAheadOfNot();
        wakeAndChainBadOrCast();
        makeBadOrNot();
        changesNothing("an empty desk", RefusedTest::empty, ofEmpty());
        changesNothing("a desk with room", RefusedTest::withRoom, ofRoom());
        changesNothing("a full desk", RefusedTest::full, ofFull());
        changesNothing("a desk that is not sound", RefusedTest::unsound, ofUnsound());
        changesNothing("a desk that is asked", RefusedTest::withRoom, asked());
        changesNothing("a full desk that is asked", RefusedTest::full, asked());
        System.out.println(wrong == 0 ? "all refusals are as due" : wrong + " answers are not as due");
        if (wrong != 0) System.exit(1);
    }

    private static void due(String call, int got, int want) {
        if (got == want) return;
        wrong++;
        System.out.println(call + " answered " + got + ", due is " + want);
    }

    // ---- the order of refusals

    private static MendDesk made(World world) {
        Desk desk = new Desk();
        world.build(desk);
        return desk.desk;
    }

    private static void partBadAheadOfFull() {
        MendDesk desk = made(RefusedTest::full);
        due("part(1, 0, true), full", desk.part(1, 0, true), FULL);
        due("part(9, 1000, false), full", desk.part(9, 1000, false), FULL);
        due("part(0, 0, true), full", desk.part(0, 0, true), BAD);
        due("part(10, 0, true), full", desk.part(10, 0, true), BAD);
        due("part(1, -1, true), full", desk.part(1, -1, true), BAD);
        due("part(1, 1001, true), full", desk.part(1, 1001, true), BAD);
    }

    private static void holeBadAheadOfFull() {
        MendDesk desk = made(RefusedTest::full);
        int[] kinds = {0, 2, 3, 4};
        for (int k : kinds) due("hole(" + k + ", 7, 1, 9), full", desk.hole(k, 7, 1, 9), FULL);
        due("hole(1, 7, 1, 9), full", desk.hole(1, 7, 1, 9), BAD);
        due("hole(5, 7, 1, 9), full", desk.hole(5, 7, 1, 9), BAD);
        due("hole(0, 8, 1, 9), full", desk.hole(0, 8, 1, 9), BAD);
        due("hole(0, 7, 0, 9), full", desk.hole(0, 7, 0, 9), BAD);
        due("hole(0, 7, 1, 10), full", desk.hole(0, 7, 1, 10), BAD);
        due("hole(0, 7, 2, 1), full", desk.hole(0, 7, 2, 1), BAD);
    }

    private static void chainedBadAheadOfFull() {
        MendDesk desk = made(RefusedTest::full);
        due("chained(7, 1, 9, 11), full", desk.chained(7, 1, 9, 11), FULL);
        due("chained(7, 1, 9, 12), full", desk.chained(7, 1, 9, 12), BAD);
        due("chained(7, 1, 9, -1), full", desk.chained(7, 1, 9, -1), BAD);
        due("chained(8, 1, 9, 11), full", desk.chained(8, 1, 9, 11), BAD);
        due("chained(7, 0, 9, 11), full", desk.chained(7, 0, 9, 11), BAD);
        due("chained(7, 1, 10, 11), full", desk.chained(7, 1, 10, 11), BAD);
        due("chained(7, 2, 1, 11), full", desk.chained(7, 2, 1, 11), BAD);
    }

    private static void mendBadAheadOfFull() {
        MendDesk desk = made(RefusedTest::full);
        due("mend(7, 9, 9, 7, 5, 5), full", desk.mend(7, 9, 9, 7, 5, 5), FULL);
        due("mend(7, 1, 1, -1, 0, 0), full", desk.mend(7, 1, 1, -1, 0, 0), FULL);
        due("mend(8, 1, 1, -1, 0, 0), full", desk.mend(8, 1, 1, -1, 0, 0), BAD);
        due("mend(7, 10, 1, -1, 0, 0), full", desk.mend(7, 10, 1, -1, 0, 0), BAD);
        due("mend(7, 1, 10, -1, 0, 0), full", desk.mend(7, 1, 10, -1, 0, 0), BAD);
        due("mend(7, 1, 0, -1, 0, 0), full", desk.mend(7, 1, 0, -1, 0, 0), BAD);
        due("mend(7, 1, 1, 8, 0, 0), full", desk.mend(7, 1, 1, 8, 0, 0), BAD);
        due("mend(7, 1, 1, -2, 0, 0), full", desk.mend(7, 1, 1, -2, 0, 0), BAD);
        due("mend(7, 1, 1, -1, 1, 0), full", desk.mend(7, 1, 1, -1, 1, 0), BAD);
        due("mend(7, 1, 1, -1, 0, 6), full", desk.mend(7, 1, 1, -1, 0, 6), BAD);
    }

    private static void quarrelBadAheadOfFull() {
        MendDesk desk = made(RefusedTest::full);
        due("quarrel(7, 9, 0, 9), full", desk.quarrel(7, 9, 0, 9), FULL);
        due("quarrel(7, 9, 7, 9), full", desk.quarrel(7, 9, 7, 9), BAD);
        due("quarrel(8, 9, 0, 9), full", desk.quarrel(8, 9, 0, 9), BAD);
        due("quarrel(7, 9, -1, 9), full", desk.quarrel(7, 9, -1, 9), BAD);
        due("quarrel(7, 0, 0, 9), full", desk.quarrel(7, 0, 0, 9), BAD);
        due("quarrel(7, 9, 0, 10), full", desk.quarrel(7, 9, 0, 10), BAD);
    }

    private static void wayBadAheadOfNone() {
        MendDesk desk = new MendDesk();
        desk.part(1, 1, true);
        due("way(0, 0), not taken", desk.way(0, 0), NONE);
        due("way(0, 2), not taken", desk.way(0, 2), NONE);
        due("way(0, 3), not taken", desk.way(0, 3), BAD);
        due("way(0, -1), not taken", desk.way(0, -1), BAD);
        due("way(1, 0), no such part", desk.way(1, 0), BAD);
    }

    private static void nextBadAheadOfNone() {
        MendDesk desk = new MendDesk();
        due("next(0), no mend", desk.next(0), NONE);
        due("next(1), no mend", desk.next(1), BAD);
        due("next(-1), no mend", desk.next(-1), BAD);
    }

    private static void planBadAheadOfNot() {
        MendDesk desk = made(RefusedTest::unsound);
        due("plan(1, 0), not sound", desk.plan(1, 0), NOT);
        due("plan(6, 99), not sound", desk.plan(6, 99), NOT);
        due("plan(0, 0), not sound", desk.plan(0, 0), BAD);
        due("plan(7, 99), not sound", desk.plan(7, 99), BAD);
        due("plan(1, -1), not sound", desk.plan(1, -1), BAD);
        due("plan(6, 100), not sound", desk.plan(6, 100), BAD);
    }

    private static void wakeAndChainBadOrCast() {
        MendDesk desk = made(RefusedTest::withRoom);
        due("wake(0, true), a plain one", desk.wake(0, true), CAST);
        due("wake(1, true), a chained one", desk.wake(1, true), CAST);
        due("wake(2, true), a shielded one", desk.wake(2, true), CAST);
        due("wake(3, true), a used one", desk.wake(3, true), CAST);
        due("wake(6, true), no such hole", desk.wake(6, true), BAD);
        due("chain(0), a plain one", desk.chain(0), CAST);
        due("chain(2), a shielded one", desk.chain(2), CAST);
        due("chain(3), a used one", desk.chain(3), CAST);
        due("chain(4), a dormant one", desk.chain(4), CAST);
        due("chain(6), no such hole", desk.chain(6), BAD);
    }

    private static void makeBadOrNot() {
        MendDesk desk = made(RefusedTest::unsound);
        due("make(0), a quarrel", desk.make(0), NOT);
        due("make(1), a need", desk.make(1), NOT);
        due("make(2), no such mend", desk.make(2), BAD);
        due("make(-1), no such mend", desk.make(-1), BAD);
    }

    // ---- the desks on which calls are refused

    private static void empty(Desk desk) {
    }

    /** Some of all there is, and two plans of which the second moved mends. */
    private static void withRoom(Desk desk) {
        desk.call(d -> d.part(1, 100, true));
        desk.call(d -> d.part(2, 50, false));
        desk.call(d -> d.part(3, 30, false));
        desk.call(d -> d.link(0, 1, true));
        desk.call(d -> d.link(1, 2, true));
        desk.call(d -> d.guard(2, true));
        desk.call(d -> d.hole(0, 0, 1, 1));
        desk.call(d -> d.chained(1, 1, 9, 0));
        desk.call(d -> d.hole(2, 2, 3, 3));
        desk.call(d -> d.hole(3, 2, 1, 3));
        desk.call(d -> d.hole(4, 0, 1, 9));
        desk.call(d -> d.hole(4, 1, 1, 9));
        desk.call(d -> d.wake(5, true));
        desk.call(d -> d.mend(0, 2, 3, -1, 0, 5));
        desk.call(d -> d.mend(1, 3, 2, 0, 1, 4));
        desk.call(d -> d.mend(2, 4, 1, -1, 2, 2));
        desk.call(d -> d.quarrel(0, 2, 2, 4));
        desk.call(d -> d.quarrel(1, 3, 2, 3));
        desk.call(d -> d.plan(6, 3));
        desk.call(d -> d.plan(4, 1));
    }

    /** As much of all as there can be. */
    private static void full(Desk desk) {
        for (int n = 0; n < 8; n++) {
            int p = n;
            desk.call(d -> d.part(1 + p % 3, 100 + p, p % 2 == 0));
        }
        for (int n = 0; n < 8; n++) {
            int p = n;
            desk.call(d -> d.link(p, (p + 1) % 8, true));
            desk.call(d -> d.hole(new int[] {0, 2, 3, 4}[p % 4], p, 1, 3));
        }
        for (int n = 0; n < 4; n++) {
            int p = n;
            desk.call(d -> d.chained(p + 4, 1, 9, p));
        }
        desk.call(d -> d.wake(3, true));
        desk.call(d -> d.guard(5, true));
        for (int n = 0; n < 8; n++) {
            int k = n;
            desk.call(d -> d.mend(k, 4 + k % 2, 1 + k, k % 4 == 3 ? k - 1 : -1, k % 3, 5));
            desk.call(d -> d.quarrel(k, 4, (k + 1) % 8, 4 + k % 3));
        }
        desk.call(d -> d.plan(6, 9));
        desk.call(d -> d.plan(5, 12));
    }

    /** What is, is not sound; the first mend would leave a quarrel, the second lacks its need. */
    private static void unsound(Desk desk) {
        desk.call(d -> d.part(1, 100, true));
        desk.call(d -> d.part(1, 50, true));
        desk.call(d -> d.hole(0, 0, 1, 1));
        desk.call(d -> d.hole(0, 1, 1, 1));
        desk.call(d -> d.mend(0, 3, 1, -1, 0, 5));
        desk.call(d -> d.mend(1, 2, 1, 0, 0, 5));
        desk.call(d -> d.plan(3, 1));
        desk.call(d -> d.plan(2, 2));
        desk.call(d -> d.quarrel(0, 1, 1, 1));
        desk.call(d -> d.quarrel(0, 3, 1, 1));
    }

    // ---- what is refused on them

    private static List<Refusal> ofEmpty() {
        List<Refusal> all = badNumbers();
        all.add(new Refusal("link(0, 1, true)", BAD, d -> d.link(0, 1, true)));
        all.add(new Refusal("guard(0, true)", BAD, d -> d.guard(0, true)));
        all.add(new Refusal("version(0, 1)", BAD, d -> d.version(0, 1)));
        all.add(new Refusal("hole(0, 0, 1, 1)", BAD, d -> d.hole(0, 0, 1, 1)));
        all.add(new Refusal("chained(0, 1, 1, 0)", BAD, d -> d.chained(0, 1, 1, 0)));
        all.add(new Refusal("wake(0, true)", BAD, d -> d.wake(0, true)));
        all.add(new Refusal("chain(0)", BAD, d -> d.chain(0)));
        all.add(new Refusal("told(0, 0)", BAD, d -> d.told(0, 0)));
        all.add(new Refusal("way(0, 0)", BAD, d -> d.way(0, 0)));
        all.add(new Refusal("bestGuard()", NONE, d -> d.bestGuard()));
        all.add(new Refusal("mend(0, 1, 1, -1, 0, 0)", BAD, d -> d.mend(0, 1, 1, -1, 0, 0)));
        all.add(new Refusal("quarrel(0, 1, 1, 1)", BAD, d -> d.quarrel(0, 1, 1, 1)));
        all.add(new Refusal("riskWith(1)", BAD, d -> d.riskWith(1)));
        all.add(new Refusal("sound(1)", BAD, d -> d.sound(1)));
        all.add(new Refusal("gain(0, 0)", GAIN_BAD, d -> d.gain(0, 0)));
        all.add(new Refusal("next(0)", NONE, d -> d.next(0)));
        all.add(new Refusal("week(0)", BAD, d -> d.week(0)));
        all.add(new Refusal("moved()", NONE, d -> d.moved()));
        all.add(new Refusal("make(0)", BAD, d -> d.make(0)));
        return all;
    }

    private static List<Refusal> ofRoom() {
        List<Refusal> all = badNumbers();
        all.add(new Refusal("link(1, 1, true)", BAD, d -> d.link(1, 1, true)));
        all.add(new Refusal("link(0, 3, true)", BAD, d -> d.link(0, 3, true)));
        all.add(new Refusal("link(3, 0, true)", BAD, d -> d.link(3, 0, true)));
        all.add(new Refusal("guard(3, true)", BAD, d -> d.guard(3, true)));
        all.add(new Refusal("version(3, 1)", BAD, d -> d.version(3, 1)));
        all.add(new Refusal("version(0, 0)", BAD, d -> d.version(0, 0)));
        all.add(new Refusal("version(0, 10)", BAD, d -> d.version(0, 10)));
        all.add(new Refusal("hole(1, 0, 1, 9)", BAD, d -> d.hole(1, 0, 1, 9)));
        all.add(new Refusal("hole(5, 0, 1, 9)", BAD, d -> d.hole(5, 0, 1, 9)));
        all.add(new Refusal("hole(0, 3, 1, 9)", BAD, d -> d.hole(0, 3, 1, 9)));
        all.add(new Refusal("hole(0, 0, 0, 9)", BAD, d -> d.hole(0, 0, 0, 9)));
        all.add(new Refusal("hole(0, 0, 1, 10)", BAD, d -> d.hole(0, 0, 1, 10)));
        all.add(new Refusal("hole(0, 0, 2, 1)", BAD, d -> d.hole(0, 0, 2, 1)));
        all.add(new Refusal("chained(3, 1, 9, 0)", BAD, d -> d.chained(3, 1, 9, 0)));
        all.add(new Refusal("chained(0, 0, 9, 0)", BAD, d -> d.chained(0, 0, 9, 0)));
        all.add(new Refusal("chained(0, 1, 10, 0)", BAD, d -> d.chained(0, 1, 10, 0)));
        all.add(new Refusal("chained(0, 2, 1, 0)", BAD, d -> d.chained(0, 2, 1, 0)));
        all.add(new Refusal("chained(0, 1, 9, 6)", BAD, d -> d.chained(0, 1, 9, 6)));
        all.add(new Refusal("wake(6, true)", BAD, d -> d.wake(6, true)));
        for (int n = 0; n < 4; n++) {
            int h = n;
            all.add(new Refusal("wake(" + h + ", true)", CAST, d -> d.wake(h, true)));
            all.add(new Refusal("wake(" + h + ", false)", CAST, d -> d.wake(h, false)));
            all.add(new Refusal("chain(" + (h == 1 ? 5 : h) + ")", CAST, d -> d.chain(h == 1 ? 5 : h)));
        }
        all.add(new Refusal("told(6, 0)", BAD, d -> d.told(6, 0)));
        all.add(new Refusal("way(3, 0)", BAD, d -> d.way(3, 0)));
        mendsOfRoom(all);
        return all;
    }

    private static void mendsOfRoom(List<Refusal> all) {
        all.add(new Refusal("mend(3, 1, 1, -1, 0, 0)", BAD, d -> d.mend(3, 1, 1, -1, 0, 0)));
        all.add(new Refusal("mend(0, 10, 1, -1, 0, 0)", BAD, d -> d.mend(0, 10, 1, -1, 0, 0)));
        all.add(new Refusal("mend(0, 1, 10, -1, 0, 0)", BAD, d -> d.mend(0, 1, 10, -1, 0, 0)));
        all.add(new Refusal("mend(0, 1, 1, 3, 0, 0)", BAD, d -> d.mend(0, 1, 1, 3, 0, 0)));
        all.add(new Refusal("mend(0, 1, 1, -1, 1, 0)", BAD, d -> d.mend(0, 1, 1, -1, 1, 0)));
        all.add(new Refusal("mend(0, 1, 1, -1, 0, 6)", BAD, d -> d.mend(0, 1, 1, -1, 0, 6)));
        all.add(new Refusal("quarrel(1, 1, 1, 2)", BAD, d -> d.quarrel(1, 1, 1, 2)));
        all.add(new Refusal("quarrel(0, 1, 3, 1)", BAD, d -> d.quarrel(0, 1, 3, 1)));
        all.add(new Refusal("quarrel(0, 0, 1, 1)", BAD, d -> d.quarrel(0, 0, 1, 1)));
        all.add(new Refusal("quarrel(0, 1, 1, 10)", BAD, d -> d.quarrel(0, 1, 1, 10)));
        all.add(new Refusal("riskWith(8)", BAD, d -> d.riskWith(8)));
        all.add(new Refusal("sound(8)", BAD, d -> d.sound(8)));
        all.add(new Refusal("gain(0, 8)", GAIN_BAD, d -> d.gain(0, 8)));
        all.add(new Refusal("gain(0, 1)", GAIN_BAD, d -> d.gain(0, 1)));
        all.add(new Refusal("gain(3, 0)", GAIN_BAD, d -> d.gain(3, 0)));
        all.add(new Refusal("next(8)", BAD, d -> d.next(8)));
        all.add(new Refusal("next(7)", NONE, d -> d.next(7)));
        all.add(new Refusal("week(3)", BAD, d -> d.week(3)));
        all.add(new Refusal("make(3)", BAD, d -> d.make(3)));
        all.add(new Refusal("make(1), a need", NOT, d -> d.make(1)));
    }

    private static List<Refusal> ofFull() {
        List<Refusal> all = badNumbers();
        all.add(new Refusal("part(9, 1000, true)", FULL, d -> d.part(9, 1000, true)));
        all.add(new Refusal("hole(0, 0, 1, 9)", FULL, d -> d.hole(0, 0, 1, 9)));
        all.add(new Refusal("hole(2, 0, 1, 9)", FULL, d -> d.hole(2, 0, 1, 9)));
        all.add(new Refusal("hole(3, 0, 1, 9)", FULL, d -> d.hole(3, 0, 1, 9)));
        all.add(new Refusal("hole(4, 0, 1, 9)", FULL, d -> d.hole(4, 0, 1, 9)));
        all.add(new Refusal("chained(0, 1, 9, 11)", FULL, d -> d.chained(0, 1, 9, 11)));
        all.add(new Refusal("mend(0, 9, 1, -1, 0, 5)", FULL, d -> d.mend(0, 9, 1, -1, 0, 5)));
        all.add(new Refusal("quarrel(0, 1, 1, 2)", FULL, d -> d.quarrel(0, 1, 1, 2)));
        all.add(new Refusal("link(0, 8, true)", BAD, d -> d.link(0, 8, true)));
        all.add(new Refusal("guard(8, true)", BAD, d -> d.guard(8, true)));
        all.add(new Refusal("version(8, 9)", BAD, d -> d.version(8, 9)));
        all.add(new Refusal("wake(12, true)", BAD, d -> d.wake(12, true)));
        all.add(new Refusal("make(8)", BAD, d -> d.make(8)));
        all.add(new Refusal("riskWith(256)", BAD, d -> d.riskWith(256)));
        return all;
    }

    private static List<Refusal> ofUnsound() {
        List<Refusal> all = badNumbers();
        all.add(new Refusal("plan(1, 0)", NOT, d -> d.plan(1, 0)));
        all.add(new Refusal("plan(6, 99)", NOT, d -> d.plan(6, 99)));
        all.add(new Refusal("make(0), a quarrel", NOT, d -> d.make(0)));
        all.add(new Refusal("make(1), a need", NOT, d -> d.make(1)));
        return all;
    }

    /** Calls with a number that no desk takes, one such number in each. */
    private static List<Refusal> badNumbers() {
        List<Refusal> all = new ArrayList<>();
        int[] never = {-2, LOW, HIGH};
        for (int n : never) {
            String s = Integer.toString(n);
            all.add(new Refusal("part(" + s + ", 1, true)", BAD, d -> d.part(n, 1, true)));
            all.add(new Refusal("part(1, " + s + ", true)", BAD, d -> d.part(1, n, true)));
            all.add(new Refusal("link(" + s + ", 0, true)", BAD, d -> d.link(n, 0, true)));
            all.add(new Refusal("link(0, " + s + ", false)", BAD, d -> d.link(0, n, false)));
            all.add(new Refusal("guard(" + s + ", true)", BAD, d -> d.guard(n, true)));
            all.add(new Refusal("guard(" + s + ", false)", BAD, d -> d.guard(n, false)));
            all.add(new Refusal("version(" + s + ", 9)", BAD, d -> d.version(n, 9)));
            all.add(new Refusal("version(0, " + s + ")", BAD, d -> d.version(0, n)));
            all.add(new Refusal("hole(" + s + ", 0, 1, 9)", BAD, d -> d.hole(n, 0, 1, 9)));
            all.add(new Refusal("hole(0, " + s + ", 1, 9)", BAD, d -> d.hole(0, n, 1, 9)));
            all.add(new Refusal("chained(0, 1, 9, " + s + ")", BAD, d -> d.chained(0, 1, 9, n)));
            all.add(new Refusal("wake(" + s + ", true)", BAD, d -> d.wake(n, true)));
            all.add(new Refusal("wake(" + s + ", false)", BAD, d -> d.wake(n, false)));
            all.add(new Refusal("told(" + s + ", 4)", BAD, d -> d.told(n, 4)));
            all.add(new Refusal("told(0, " + s + ")", BAD, d -> d.told(0, n)));
            all.add(new Refusal("way(" + s + ", 0)", BAD, d -> d.way(n, 0)));
            all.add(new Refusal("way(0, " + s + ")", BAD, d -> d.way(0, n)));
            all.add(new Refusal("mend(0, 9, 1, " + s + ", 0, 5)", BAD, d -> d.mend(0, 9, 1, n, 0, 5)));
            all.add(new Refusal("quarrel(" + s + ", 1, 0, 1)", BAD, d -> d.quarrel(n, 1, 0, 1)));
            all.add(new Refusal("riskWith(" + s + ")", BAD, d -> d.riskWith(n)));
            all.add(new Refusal("sound(" + s + ")", BAD, d -> d.sound(n)));
            all.add(new Refusal("gain(" + s + ", 0)", GAIN_BAD, d -> d.gain(n, 0)));
            all.add(new Refusal("next(" + s + ")", BAD, d -> d.next(n)));
            all.add(new Refusal("plan(" + s + ", 9)", BAD, d -> d.plan(n, 9)));
            all.add(new Refusal("plan(6, " + s + ")", BAD, d -> d.plan(6, n)));
            all.add(new Refusal("week(" + s + ")", BAD, d -> d.week(n)));
            all.add(new Refusal("make(" + s + ")", BAD, d -> d.make(n)));
            all.add(new Refusal("count(" + s + ")", BAD, d -> d.count(n)));
        }
        all.add(new Refusal("plan(0, 9)", BAD, d -> d.plan(0, 9)));
        all.add(new Refusal("plan(7, 9)", BAD, d -> d.plan(7, 9)));
        all.add(new Refusal("plan(6, -1)", BAD, d -> d.plan(6, -1)));
        all.add(new Refusal("plan(6, 100)", BAD, d -> d.plan(6, 100)));
        all.add(new Refusal("count(6)", BAD, d -> d.count(6)));
        return all;
    }

    /** Calls that only ask: their answers are looked at elsewhere, here that they leave all as it is. */
    private static List<Refusal> asked() {
        List<Refusal> all = new ArrayList<>();
        Call[] calls = {
            d -> d.risk(), d -> d.taken(), d -> d.bestGuard(), d -> d.moved(), d -> d.chain(1), d -> d.told(2, 4),
            d -> d.way(1, 1), d -> d.riskWith(7), d -> d.sound(7), d -> d.gain(2, 1), d -> d.next(0), d -> d.week(1),
            d -> d.count(4), d -> d.count(5),
        };
        for (int c = 0; c < calls.length; c++) {
            all.add(new Refusal("asking call " + c, ANY, calls[c]));
        }
        return all;
    }

    // ---- that nothing has changed

    /** The same desk twice, the call on one of them; then both must answer alike. */
    private static void changesNothing(String where, World world, List<Refusal> refusals) {
        List<Integer> want = probe(world, null);
        for (Refusal r : refusals) {
            List<Integer> got = probe(world, r);
            if (got.equals(want)) continue;
            wrong++;
            System.out.println("on " + where + " " + r.call() + " changes what later calls answer");
        }
    }

    private static List<Integer> probe(World world, Refusal refusal) {
        Desk desk = new Desk();
        world.build(desk);
        if (refusal != null) {
            int got = desk.call(refusal.made());
            if (refusal.due() != ANY) due(refusal.call(), got, refusal.due());
        }
        List<Integer> answers = new ArrayList<>();
        askAll(desk, answers);
        tryPlansAndMends(desk, answers);
        tryLinksAndGuards(desk, answers);
        addOfEach(desk, answers);
        return answers;
    }

    private static void askAll(Desk desk, List<Integer> answers) {
        answers.add(desk.call(d -> d.moved()));
        answers.add(desk.call(d -> d.risk()));
        answers.add(desk.call(d -> d.taken()));
        answers.add(desk.call(d -> d.bestGuard()));
        answers.add(desk.call(d -> d.next(0)));
        for (int n = 0; n < 12; n++) {
            int h = n;
            answers.add(desk.call(d -> d.chain(h)));
            for (int w = 0; w < 5; w++) {
                int what = w;
                answers.add(desk.call(d -> d.told(h, what)));
            }
        }
        for (int n = 0; n < 8; n++) {
            int k = n;
            answers.add(desk.call(d -> d.count(k)));
            answers.add(desk.call(d -> d.week(k)));
            answers.add(desk.call(d -> d.gain(k, 0)));
            answers.add(desk.call(d -> d.sound(1 << k)));
            for (int w = 0; w < 3; w++) {
                int what = w;
                answers.add(desk.call(d -> d.way(k, what)));
            }
        }
    }

    private static void tryPlansAndMends(Desk desk, List<Integer> answers) {
        answers.add(desk.call(d -> d.plan(5, 4)));
        answers.add(desk.call(d -> d.moved()));
        for (int n = 0; n < 8; n++) {
            int k = n;
            answers.add(desk.call(d -> d.week(k)));
            answers.add(desk.call(d -> d.make(k)));
        }
        for (int n = 0; n < 8; n++) {
            int p = n;
            answers.add(desk.call(d -> d.version(p, 1)));
            answers.add(desk.call(d -> d.version(p, 4)));
        }
    }

    private static void tryLinksAndGuards(Desk desk, List<Integer> answers) {
        for (int f = 0; f < 8; f++) {
            int from = f;
            answers.add(desk.call(d -> d.guard(from, true)));
            for (int t = 0; t < 8; t++) {
                int to = t;
                if (from == to) continue;
                answers.add(desk.call(d -> d.link(from, to, true)));
            }
        }
        for (int n = 0; n < 12; n++) {
            int h = n;
            answers.add(desk.call(d -> d.wake(h, true)));
        }
        answers.add(desk.call(d -> d.risk()));
    }

    private static void addOfEach(Desk desk, List<Integer> answers) {
        answers.add(desk.call(d -> d.part(1, 1, true)));
        answers.add(desk.call(d -> d.part(1, 1, true)));
        answers.add(desk.call(d -> d.guard(0, false)));
        answers.add(desk.call(d -> d.hole(0, 0, 1, 9)));
        answers.add(desk.call(d -> d.chained(1, 1, 9, 0)));
        answers.add(desk.call(d -> d.mend(0, 9, 1, -1, 0, 5)));
        answers.add(desk.call(d -> d.quarrel(0, 9, 1, 9)));
        answers.add(desk.call(d -> d.plan(2, 3)));
        answers.add(desk.call(d -> d.moved()));
        answers.add(desk.call(d -> d.risk()));
        answers.add(desk.call(d -> d.taken()));
    }
}

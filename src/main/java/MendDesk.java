import java.util.Arrays;

/** A desk of mends over a net of parts with holes; README.md tells how to use it. */
public final class MendDesk {
    public static final int BAD = -1, NOT = -2, FULL = -3, NONE = -4, CAST = -13;

    private static final int PARTS = 8, HOLES = 12, MENDS = 8, QUARRELS = 8, WEEKS = 6;
    private static final int TOP_VERSION = 9, TOP_WORTH = 1000, TOP_HANDS = 9, TOP_WEEK_HANDS = 99;
    private static final int SETS = 1 << MENDS;
    private static final int OUTSIDE = -1, NO_NEED = -1;

    /** Keeps answers that may be below 0 apart from refusals. */
    private static final int LIFT = 100000;

    private final Net net;
    private final Spread spread;
    private final Mends mends;
    private final Planner planner;

    public MendDesk() {
        net = new Net();
        spread = new Spread(net);
        mends = new Mends(net, spread);
        planner = new Planner(mends);
    }

    // ---- 1 parts and holes

    public int part(int version, int worth, boolean open) {
        if (!isVersion(version) || !isBetween(worth, 0, TOP_WORTH)) return BAD;
        return net.addPart(version, worth, open);
    }

    public int link(int from, int to, boolean there) {
        if (!net.hasPart(from) || !net.hasPart(to) || from == to) return BAD;
        int was = net.linksInto[to];
        net.linksInto[to] = withMember(was, from, there);
        return asNumber(isIn(was, from));
    }

    public int guard(int part, boolean there) {
        if (!net.hasPart(part)) return BAD;
        int was = net.guarded;
        net.guarded = withMember(was, part, there);
        return asNumber(isIn(was, part));
    }

    public int version(int part, int v) {
        if (!net.hasPart(part) || !isVersion(v)) return BAD;
        int was = net.versions[part];
        net.versions[part] = v;
        return was;
    }

    public int hole(int kind, int part, int a, int b) {
        if (!net.hasPart(part) || !isSpan(a, b)) return BAD;
        Hole made = newHole(kind, part, a, b);
        return made == null ? BAD : net.addHole(made);
    }

    public int chained(int part, int a, int b, int to) {
        Hole target = net.holeAt(to);
        if (!net.hasPart(part) || !isSpan(a, b) || target == null) return BAD;
        return net.addHole(new Chained(part, a, b, to, target.part));
    }

    public int wake(int hole, boolean awake) {
        Hole found = net.holeAt(hole);
        if (found == null) return BAD;
        if (found instanceof Dormant sleeper) {
            boolean was = sleeper.awake;
            sleeper.awake = awake;
            return asNumber(was);
        }
        return CAST;
    }

    public int chain(int hole) {
        Hole found = net.holeAt(hole);
        if (found == null) return BAD;
        if (found instanceof Chained link) return link.to;
        return CAST;
    }

    public int told(int hole, int what) {
        Hole found = net.holeAt(hole);
        if (found == null) return BAD;
        switch (what) {
            case 0: return found.kind();
            case 1: return found.part;
            case 2: return found.low;
            case 3: return found.high;
            case 4: return asNumber(net.standsNow(found));
            default: return BAD;
        }
    }

    public int risk() {
        return spreadNow();
    }

    public int taken() {
        spreadNow();
        return spread.taken;
    }

    public int way(int part, int what) {
        if (!net.hasPart(part) || !isBetween(what, 0, 2)) return BAD;
        spreadNow();
        if (!isIn(spread.taken, part)) return NONE;
        switch (what) {
            case 0: return spread.steps[part];
            case 1: return spread.byHole[part];
            default: return spread.fromPart[part];
        }
    }

    public int bestGuard() {
        int best = NONE;
        int least = spreadNow();
        for (int p = 0; p < net.partCount; p++) {
            if (isIn(net.guarded, p)) continue;
            int guardedRisk = spread.run(net.versions, net.guarded | bit(p));
            if (guardedRisk < least) {
                least = guardedRisk;
                best = p;
            }
        }
        return best;
    }

    // ---- 2 mends

    public int mend(int part, int version, int hands, int need, int first, int last) {
        if (!net.hasPart(part) || !isVersion(version) || !isBetween(hands, 1, TOP_HANDS)) return BAD;
        if (need != NO_NEED && mends.mendAt(need) == null) return BAD;
        if (!isBetween(first, 0, WEEKS - 1) || !isBetween(last, first, WEEKS - 1)) return BAD;
        return mends.addMend(new Mend(part, version, hands, need, first, last));
    }

    public int quarrel(int part, int version, int other, int version2) {
        if (!net.hasPart(part) || !net.hasPart(other) || part == other) return BAD;
        if (!isVersion(version) || !isVersion(version2)) return BAD;
        return mends.addQuarrel(new Quarrel(part, version, other, version2));
    }

    public int riskWith(int done) {
        if (!mends.isSet(done)) return BAD;
        return mends.riskAfter(done);
    }

    public int sound(int done) {
        if (!mends.isSet(done)) return BAD;
        return asNumber(mends.isSound(done));
    }

    public int gain(int mend, int done) {
        if (mends.mendAt(mend) == null || !mends.isSet(done) || isIn(done, mend)) return BAD - LIFT;
        return mends.riskAfter(done) - mends.riskAfter(done | bit(mend));
    }

    public int next(int done) {
        if (!mends.isSet(done)) return BAD;
        int risk = mends.riskAfter(done);
        int best = NONE, bestGain = 0, bestHands = 1;
        for (int k = 0; k < mends.mendCount; k++) {
            Mend mend = mends.mendAt(k);
            if (mend == null || isIn(done, k) || !mends.isSound(done | bit(k))) continue;
            int gained = risk - mends.riskAfter(done | bit(k));
            // Fractions are compared crosswise, as a division would lose what is behind the point.
            if (gained * bestHands > bestGain * mend.hands) {
                best = k;
                bestGain = gained;
                bestHands = mend.hands;
            }
        }
        return best;
    }

    public int plan(int weeks, int hands) {
        if (!isBetween(weeks, 1, WEEKS) || !isBetween(hands, 0, TOP_WEEK_HANDS)) return BAD;
        if (!mends.isSound(0)) return NOT;
        planner.weighSets(weeks, hands);
        planner.findSums(weeks);
        planner.fixWeeks(weeks);
        return planner.leastSum();
    }

    public int week(int mend) {
        if (mends.mendAt(mend) == null) return BAD;
        return planner.weekOf[mend];
    }

    public int moved() {
        return planner.planCount < 2 ? NONE : planner.movedMends;
    }

    public int make(int mend) {
        Mend made = mends.mendAt(mend);
        if (made == null) return BAD;
        if (!mends.needIsMet(made) || mends.quarrelHolds(bit(mend))) return NOT;
        int before = spreadNow();
        net.versions[made.part] = Math.max(net.versions[made.part], made.version);
        return before - spreadNow() + LIFT;
    }

    public int count(int what) {
        switch (what) {
            case 0: return net.partCount;
            case 1: return net.holeCount;
            case 2: return mends.mendCount;
            case 3: return mends.quarrelCount;
            case 4:
                spreadNow();
                return Integer.bitCount(spread.standing);
            case 5:
                spreadNow();
                return Integer.bitCount(spread.taken);
            default: return BAD;
        }
    }

    // ---- small helpers

    private int spreadNow() {
        return spread.run(net.versions, net.guarded);
    }

    private static boolean isBetween(int n, int least, int most) {
        return least <= n && n <= most;
    }

    private static boolean isVersion(int n) {
        return isBetween(n, 1, TOP_VERSION);
    }

    private static boolean isSpan(int a, int b) {
        return isVersion(a) && isVersion(b) && a <= b;
    }

    private static int asNumber(boolean yes) {
        return yes ? 1 : 0;
    }

    private static int bit(int n) {
        return 1 << n;
    }

    private static boolean isIn(int set, int n) {
        return (set & 1 << n) != 0;
    }

    private static int withMember(int set, int n, boolean there) {
        return there ? set | bit(n) : set & ~bit(n);
    }

    /** Null for other kinds: a chained one wants to know its target, and has a call of its own. */
    private static Hole newHole(int kind, int part, int a, int b) {
        switch (kind) {
            case 0: return new Hole(part, a, b);
            case 2: return new Shielded(part, a, b);
            case 3: return new Used(part, a, b);
            case 4: return new Dormant(part, a, b);
            default: return null;
        }
    }

    // ---- the kinds of holes

    /** A plain hole, and what all kinds have in common. */
    private static class Hole {
        final int part, low, high;

        Hole(int part, int low, int high) {
            this.part = part;
            this.low = low;
            this.high = high;
        }

        int kind() {
            return 0;
        }

        boolean stands(int version, boolean guarded) {
            return isOfVersion(version);
        }

        /** Whether one that stands opens, too; opening: those of lower numbers that do. */
        boolean isFreed(int standing, int opening, int taken) {
            return true;
        }

        final boolean isOfVersion(int version) {
            return low <= version && version <= high;
        }
    }

    private static final class Chained extends Hole {
        final int to, toPart;

        Chained(int part, int low, int high, int to, int toPart) {
            super(part, low, high);
            this.to = to;
            this.toPart = toPart;
        }

        int kind() {
            return 1;
        }

        // A chain leads to a lower number, so whether that one opens is known by now.
        boolean isFreed(int standing, int opening, int taken) {
            if (toPart == part) return isIn(opening, to);
            return isIn(standing, to) && isIn(taken, toPart);
        }
    }

    private static class Shielded extends Hole {
        Shielded(int part, int low, int high) {
            super(part, low, high);
        }

        int kind() {
            return 2;
        }

        boolean stands(int version, boolean guarded) {
            return !guarded && isOfVersion(version);
        }
    }

    private static final class Used extends Shielded {
        Used(int part, int low, int high) {
            super(part, low, high);
        }

        int kind() {
            return 3;
        }

        // Those who use it know the way around a guard.
        boolean stands(int version, boolean guarded) {
            return isOfVersion(version);
        }
    }

    private static final class Dormant extends Hole {
        boolean awake;

        Dormant(int part, int low, int high) {
            super(part, low, high);
        }

        int kind() {
            return 4;
        }

        boolean stands(int version, boolean guarded) {
            return awake && isOfVersion(version);
        }
    }

    // ---- the net

    /** Parts, links and holes as they are now. Sets of parts are bits. */
    private static final class Net {
        final int[] versions = new int[PARTS];
        final int[] worths = new int[PARTS];
        final int[] linksInto = new int[PARTS];
        private final Hole[] holes = new Hole[HOLES];
        int partCount, holeCount;
        int open, guarded;

        boolean hasPart(int n) {
            return n >= 0 && n < partCount;
        }

        Hole holeAt(int n) {
            return n >= 0 && n < holeCount ? holes[n] : null;
        }

        int addPart(int version, int worth, boolean isOpen) {
            if (partCount >= PARTS) return FULL;
            versions[partCount] = version;
            worths[partCount] = worth;
            open = withMember(open, partCount, isOpen);
            return partCount++;
        }

        int addHole(Hole hole) {
            if (holeCount >= HOLES) return FULL;
            holes[holeCount] = hole;
            return holeCount++;
        }

        boolean standsNow(Hole hole) {
            return hole.stands(versions[hole.part], isIn(guarded, hole.part));
        }
    }

    /** Who is taken, if the parts have these versions and guards: the answers of the latest run. */
    private static final class Spread {
        private final Net net;
        final int[] steps = new int[PARTS];
        final int[] byHole = new int[PARTS];
        final int[] fromPart = new int[PARTS];
        int standing, taken;
        private int twice;

        Spread(Net net) {
            this.net = net;
        }

        /** Fills the answers anew; returns the risk. */
        int run(int[] versions, int guarded) {
            findStanding(versions, guarded);
            taken = 0;
            // Each step but the last takes a part, so there are no more steps than parts.
            for (int step = 1; step <= PARTS; step++) {
                int fresh = takeStep(step);
                if (fresh == 0) break;
                taken |= fresh;
            }
            return sumOfWorths();
        }

        private int sumOfWorths() {
            int sum = 0;
            for (int p = 0; p < net.partCount; p++) {
                if (isIn(taken, p)) sum += isIn(twice, p) ? 2 * net.worths[p] : net.worths[p];
            }
            return sum;
        }

        private void findStanding(int[] versions, int guarded) {
            standing = 0;
            twice = 0;
            for (int h = 0; h < net.holeCount; h++) {
                Hole hole = net.holeAt(h);
                if (hole == null || !hole.stands(versions[hole.part], isIn(guarded, hole.part))) continue;
                standing |= bit(h);
                if (hole instanceof Used) twice |= bit(hole.part);
            }
        }

        // All at once: what a step takes is no ground for more in the same step.
        private int takeStep(int step) {
            int opening = 0, fresh = 0;
            for (int h = 0; h < net.holeCount; h++) {
                Hole hole = net.holeAt(h);
                if (hole == null || !isIn(standing, h) || !hole.isFreed(standing, opening, taken)) continue;
                opening |= bit(h);
                int p = hole.part;
                if (isIn(taken | fresh, p) || !isReached(p)) continue;
                fresh |= bit(p);
                steps[p] = step;
                byHole[p] = h;
                fromPart[p] = isIn(net.open, p) ? OUTSIDE : leastOf(net.linksInto[p] & taken);
            }
            return fresh;
        }

        private boolean isReached(int p) {
            return isIn(net.open, p) || (net.linksInto[p] & taken) != 0;
        }

        private static int leastOf(int set) {
            for (int p = 0; p < PARTS; p++) {
                if (isIn(set, p)) return p;
            }
            return OUTSIDE;
        }
    }

    // ---- mends and plans

    private static final class Mend {
        final int part, version, hands, need, first, last;

        Mend(int part, int version, int hands, int need, int first, int last) {
            this.part = part;
            this.version = version;
            this.hands = hands;
            this.need = need;
            this.first = first;
            this.last = last;
        }
    }

    private static final class Quarrel {
        final int part, version, other, otherVersion;

        Quarrel(int part, int version, int other, int otherVersion) {
            this.part = part;
            this.version = version;
            this.other = other;
            this.otherVersion = otherVersion;
        }

        boolean holds(int[] versions) {
            return versions[part] == version && versions[other] == otherVersion;
        }
    }

    /** The mends and quarrels, and what follows from doing a set of mends (bits). */
    private static final class Mends {
        private final Net net;
        private final Spread spread;
        private final Mend[] list = new Mend[MENDS];
        private final Quarrel[] quarrels = new Quarrel[QUARRELS];
        private final int[] versionsThen = new int[PARTS];
        int mendCount, quarrelCount;

        Mends(Net net, Spread spread) {
            this.net = net;
            this.spread = spread;
        }

        Mend mendAt(int n) {
            return n >= 0 && n < mendCount ? list[n] : null;
        }

        boolean isSet(int done) {
            return done >= 0 && done < bit(mendCount);
        }

        int addMend(Mend mend) {
            if (mendCount >= MENDS) return FULL;
            list[mendCount] = mend;
            return mendCount++;
        }

        int addQuarrel(Quarrel quarrel) {
            if (quarrelCount >= QUARRELS) return FULL;
            quarrels[quarrelCount] = quarrel;
            return ++quarrelCount;
        }

        int riskAfter(int done) {
            fillVersions(done);
            return spread.run(versionsThen, net.guarded);
        }

        boolean isSound(int done) {
            return hasAllNeeds(done) && !quarrelHolds(done);
        }

        boolean quarrelHolds(int done) {
            fillVersions(done);
            for (int q = 0; q < quarrelCount; q++) {
                Quarrel quarrel = quarrels[q];
                if (quarrel != null && quarrel.holds(versionsThen)) return true;
            }
            return false;
        }

        /** Whether the part of a mend's need is now as that one would bring it, or above. */
        boolean needIsMet(Mend mend) {
            Mend need = mendAt(mend.need);
            return need == null || net.versions[need.part] >= need.version;
        }

        private boolean hasAllNeeds(int done) {
            for (int k = 0; k < mendCount; k++) {
                Mend mend = list[k];
                if (mend == null || !isIn(done, k) || mend.need == NO_NEED) continue;
                if (!isIn(done, mend.need)) return false;
            }
            return true;
        }

        private void fillVersions(int done) {
            System.arraycopy(net.versions, 0, versionsThen, 0, PARTS);
            for (int k = 0; k < mendCount; k++) {
                Mend mend = list[k];
                if (mend == null || !isIn(done, k)) continue;
                versionsThen[mend.part] = Math.max(versionsThen[mend.part], mend.version);
            }
        }
    }

    /** Finds the plan, from the last week back to the first, and keeps the latest. */
    private static final class Planner {
        private static final int UNSOUND = -1;
        private final Mends mends;
        /** Of each set of mends: the risk with it done, or UNSOUND. */
        private final int[] risks = new int[SETS];
        /** Of each set of mends: whether one week has the hands for it. */
        private final boolean[] fits = new boolean[SETS];
        /** Of each week and set done ahead of it: the least sum from that week on. */
        private final int[][] sums = new int[WEEKS + 1][SETS];
        /** Of each week: the mends that may be in it, and those that may be ahead of it. */
        private final int[] allowed = new int[WEEKS];
        private final int[] ahead = new int[WEEKS + 1];
        final int[] weekOf = new int[MENDS];
        int planCount, movedMends;

        Planner(Mends mends) {
            this.mends = mends;
            Arrays.fill(weekOf, NONE);
        }

        void weighSets(int weeks, int hands) {
            findAllowed(weeks);
            for (int set = 0; set < SETS; set++) {
                if ((set & ~ahead[weeks]) != 0) continue;
                fits[set] = handsOf(set) <= hands;
                risks[set] = mends.isSound(set) ? mends.riskAfter(set) : UNSOUND;
            }
        }

        void findSums(int weeks) {
            System.arraycopy(risks, 0, sums[weeks], 0, SETS);
            for (int week = weeks - 1; week >= 0; week--) {
                for (int done = 0; done < SETS; done++) {
                    if ((done & ~ahead[week]) != 0 || risks[done] == UNSOUND) continue;
                    sums[week][done] = risks[done] + sums[week + 1][done | bestSet(week, done)];
                }
            }
        }

        int leastSum() {
            return sums[0][0];
        }

        void fixWeeks(int weeks) {
            movedMends = 0;
            int done = 0;
            for (int week = 0; week < weeks; week++) {
                int set = bestSet(week, done);
                done |= set;
                for (int k = 0; k < MENDS; k++) {
                    if (isIn(set, k)) putInWeek(k, week);
                }
            }
            for (int k = 0; k < MENDS; k++) {
                if (!isIn(done, k)) putInWeek(k, NONE);
            }
            planCount++;
        }

        private void putInWeek(int k, int week) {
            if (weekOf[k] != week) movedMends |= bit(k);
            weekOf[k] = week;
        }

        // Sets come in rising order, so of like ones the least is kept.
        private int bestSet(int week, int done) {
            int free = allowed[week] & ~done;
            int[] later = sums[week + 1];
            int best = 0, set = 0;
            for (int tried = 0; tried < SETS; tried++) {
                int then = done | set;
                if (fits[set] && risks[then] != UNSOUND && later[then] < later[done | best]) best = set;
                set = (set - free) & free;
                if (set == 0) break;
            }
            return best;
        }

        private void findAllowed(int weeks) {
            ahead[0] = 0;
            for (int week = 0; week < weeks; week++) {
                allowed[week] = 0;
                for (int k = 0; k < mends.mendCount; k++) {
                    Mend mend = mends.mendAt(k);
                    if (mend != null && isBetween(week, mend.first, mend.last)) allowed[week] |= bit(k);
                }
                ahead[week + 1] = ahead[week] | allowed[week];
            }
        }

        private int handsOf(int set) {
            int sum = 0;
            for (int k = 0; k < mends.mendCount; k++) {
                Mend mend = mends.mendAt(k);
                if (mend != null && isIn(set, k)) sum += mend.hands;
            }
            return sum;
        }
    }
}

import java.util.ArrayList;
import java.util.HashMap;
import java.util.HashSet;
import java.util.List;
import java.util.Map;
import java.util.Random;
import java.util.Set;

/** Long runs of calls, each answer beside that of a slow model that tries everything. */
public final class ModelTest {
    private static final int BAD = -1, NOT = -2, FULL = -3, NONE = -4, CAST = -13;
    private static final int RUNS = 400, CALLS = 512, MOST_PLANS = 20000;

    public static void main(String[] args) {
        int wrong = 0;
        for (int seed = 1; seed <= RUNS && wrong < 5; seed++) {
            String fault = new Run(seed).play();
            if (fault == null) continue;
            wrong++;
            System.out.println("run " + seed + ": " + fault);
        }
        if (wrong == 0) {
            String fault = biggestPlans();
            if (fault != null) {
                wrong++;
                System.out.println(fault);
            }
        }
        System.out.println(wrong == 0 ? "all runs are as the model's" : wrong + " runs are not as the model's");
        if (wrong != 0) System.exit(1);
    }

    /** Eight mends over six weeks, of which the model tries every plan. */
    private static String biggestPlans() {
        for (int seed = 1; seed <= 6; seed++) {
            Random dice = new Random(seed);
            MendDesk desk = new MendDesk();
            Model model = new Model();
            for (int p = 0; p < 8; p++) {
                int worth = dice.nextInt(6) * 10;
                desk.part(1, worth, p < 4);
                model.part(1, worth, p < 4);
            }
            for (int h = 0; h < 8; h++) {
                int kind = h % 3 == 2 ? 3 : 0;
                desk.hole(kind, h, 1, 1 + h % 2);
                model.hole(kind, h, 1, 1 + h % 2);
                desk.link(h, (h + 4) % 8, true);
                model.link(h, (h + 4) % 8, true);
            }
            for (int k = 0; k < 8; k++) {
                int part = dice.nextInt(8), version = 2 + dice.nextInt(2), hands = 1 + dice.nextInt(9);
                int need = dice.nextInt(3) == 0 ? k - 1 : -1;
                int first = dice.nextInt(3), last = 3 + dice.nextInt(3);
                desk.mend(part, version, hands, need, first, last);
                model.mend(part, version, hands, need, first, last);
            }
            int hands = seed * 5;
            if (desk.plan(6, hands) != model.plan(6, hands)) return "big plan " + seed + ": the sum is not the least";
            for (int k = 0; k < 8; k++) {
                if (desk.week(k) != model.week(k)) return "big plan " + seed + ": week(" + k + ") is not as due";
            }
        }
        return null;
    }

    /** One run of calls on a new desk and a new model. */
    private static final class Run {
        private final Random dice;
        private final MendDesk desk = new MendDesk();
        private final Model model = new Model();
        private final List<String> told = new ArrayList<>();
        private final int topVersion;

        Run(int seed) {
            dice = new Random(seed * 7919L);
            // Few versions make quarrels, holes and mends meet.
            topVersion = 2 + dice.nextInt(3);
        }

        String play() {
            for (int c = 0; c < CALLS; c++) {
                if (!callOne(c)) return String.join("; ", told.subList(Math.max(0, told.size() - 12), told.size()));
            }
            return null;
        }

        private boolean callOne(int c) {
            int kindOfCall = c < 60 ? building() : dice.nextInt(24);
            switch (kindOfCall) {
                case 0: case 1: case 2: case 3: case 4: case 5: case 6: case 7: return onNet(kindOfCall);
                case 8: case 9: case 10: case 11: case 12: case 13: return onAnswers(kindOfCall);
                default: return onMends(kindOfCall);
            }
        }

        private int building() {
            int[] calls = {0, 0, 1, 1, 1, 4, 4, 5, 6, 14, 14, 14, 15, 20};
            return calls[dice.nextInt(calls.length)];
        }

        private boolean onNet(int kindOfCall) {
            int p = number(model.parts.size()), q = number(model.parts.size()), h = number(model.holes.size());
            int v = version(), w = version();
            boolean yes = dice.nextInt(3) > 0;
            switch (kindOfCall) {
                case 0: {
                    int worth = odd() ? 1001 : dice.nextInt(5) * 10;
                    boolean open = dice.nextInt(3) == 0;
                    return same("part", desk.part(v, worth, open), model.part(v, worth, open), v, worth);
                }
                case 1: return same("link", desk.link(p, q, yes), model.link(p, q, yes), p, q);
                case 2: return same("guard", desk.guard(p, yes), model.guard(p, yes), p);
                case 3: return same("version", desk.version(p, v), model.version(p, v), p, v);
                case 4: {
                    int kind = dice.nextInt(5);
                    return same("hole", desk.hole(kind, p, v, w), model.hole(kind, p, v, w), kind, p, v, w);
                }
                case 5: return same("chained", desk.chained(p, v, w, h), model.chained(p, v, w, h), p, v, w, h);
                case 6: return same("wake", desk.wake(h, yes), model.wake(h, yes), h);
                default: return same("chain", desk.chain(h), model.chain(h), h);
            }
        }

        private boolean onAnswers(int kindOfCall) {
            int p = number(model.parts.size()), h = number(model.holes.size());
            int what = dice.nextInt(6), w = odd() ? 3 : dice.nextInt(3);
            switch (kindOfCall) {
                case 8: return same("told", desk.told(h, what), model.told(h, what), h, what);
                case 9: return same("risk", desk.risk(), model.risk());
                case 10: return same("taken", desk.taken(), model.taken());
                case 11: return same("way", desk.way(p, w), model.way(p, w), p, w);
                case 12: return same("bestGuard", desk.bestGuard(), model.bestGuard());
                default: return same("count", desk.count(what), model.count(what), what);
            }
        }

        private boolean onMends(int kindOfCall) {
            int p = number(model.parts.size()), q = number(model.parts.size()), k = number(model.mends.size());
            int v = version(), w = version();
            int set = odd() ? 1 << model.mends.size() : dice.nextInt(1 << model.mends.size());
            switch (kindOfCall) {
                case 14: {
                    int hands = odd() ? 10 : 1 + dice.nextInt(9), need = dice.nextBoolean() ? -1 : k;
                    int first = dice.nextInt(3), last = first + dice.nextInt(5) - 1;
                    return same("mend", desk.mend(p, v, hands, need, first, last),
                        model.mend(p, v, hands, need, first, last), p, v, hands, need, first, last);
                }
                case 15: return dice.nextInt(4) > 0
                    || same("quarrel", desk.quarrel(p, v, q, w), model.quarrel(p, v, q, w), p, v, q, w);
                case 16: return same("riskWith", desk.riskWith(set), model.riskWith(set), set);
                case 17: return same("sound", desk.sound(set), model.sound(set), set);
                case 18: return same("gain", desk.gain(k, set), model.gain(k, set), k, set);
                case 19: return same("next", desk.next(set), model.next(set), set);
                case 20: return planOne();
                case 21: return same("week", desk.week(k), model.week(k), k);
                case 22: return same("moved", desk.moved(), model.moved());
                default: return dice.nextInt(3) > 0 || same("make", desk.make(k), model.make(k), k);
            }
        }

        private boolean planOne() {
            int weeks = odd() ? 0 : 1 + dice.nextInt(6);
            int hands = odd() ? 100 : dice.nextInt(25);
            while (weeks > 1 && Math.pow(weeks + 1, model.mends.size()) > MOST_PLANS) weeks--;
            if (!same("plan", desk.plan(weeks, hands), model.plan(weeks, hands), weeks, hands)) return false;
            for (int k = 0; k < model.mends.size(); k++) {
                if (!same("week", desk.week(k), model.week(k), k)) return false;
            }
            return same("moved", desk.moved(), model.moved());
        }

        private boolean same(String call, int got, int want, int... numbers) {
            StringBuilder row = new StringBuilder(call).append('(');
            for (int i = 0; i < numbers.length; i++) row.append(i > 0 ? ", " : "").append(numbers[i]);
            row.append(") ").append(got);
            if (got != want) row.append(", due is ").append(want);
            told.add(row.toString());
            return got == want;
        }

        private boolean odd() {
            return dice.nextInt(25) == 0;
        }

        private int number(int size) {
            if (odd()) return dice.nextBoolean() ? -1 : size;
            return size == 0 ? 0 : dice.nextInt(size);
        }

        private int version() {
            return odd() ? 10 * dice.nextInt(2) : 1 + dice.nextInt(topVersion);
        }
    }

    private record Part(int worth, boolean open) { }

    private record Hole(int kind, int part, int a, int b, int to) { }

    private record Mend(int part, int version, int hands, int need, int first, int last) { }

    private record Quarrel(int part, int version, int other, int version2) { }

    private record Link(int from, int to) { }

    private record Taken(int step, int hole, int from) { }

    /** The document's words, one by one, without regard to speed. */
    private static final class Model {
        final List<Part> parts = new ArrayList<>();
        final List<Hole> holes = new ArrayList<>();
        final List<Mend> mends = new ArrayList<>();
        final List<Quarrel> quarrels = new ArrayList<>();
        final Map<Integer, Integer> versions = new HashMap<>();
        final Set<Link> links = new HashSet<>();
        final Set<Integer> guarded = new HashSet<>(), awake = new HashSet<>();
        final List<Map<Integer, Integer>> plans = new ArrayList<>();

        int part(int version, int worth, boolean open) {
            if (version < 1 || version > 9 || worth < 0 || worth > 1000) return BAD;
            if (parts.size() == 8) return FULL;
            versions.put(parts.size(), version);
            parts.add(new Part(worth, open));
            return parts.size() - 1;
        }

        int link(int from, int to, boolean there) {
            if (noPart(from) || noPart(to) || from == to) return BAD;
            Link link = new Link(from, to);
            boolean was = links.contains(link);
            if (there) links.add(link); else links.remove(link);
            return was ? 1 : 0;
        }

        int guard(int part, boolean there) {
            if (noPart(part)) return BAD;
            boolean was = guarded.contains(part);
            if (there) guarded.add(part); else guarded.remove(part);
            return was ? 1 : 0;
        }

        int version(int part, int v) {
            if (noPart(part) || v < 1 || v > 9) return BAD;
            return versions.put(part, v);
        }

        int hole(int kind, int part, int a, int b) {
            if (kind < 0 || kind > 4 || kind == 1 || noPart(part) || a < 1 || b > 9 || a > b) return BAD;
            if (holes.size() == 12) return FULL;
            holes.add(new Hole(kind, part, a, b, -1));
            return holes.size() - 1;
        }

        int chained(int part, int a, int b, int to) {
            if (noPart(part) || a < 1 || b > 9 || a > b || to < 0 || to >= holes.size()) return BAD;
            if (holes.size() == 12) return FULL;
            holes.add(new Hole(1, part, a, b, to));
            return holes.size() - 1;
        }

        int wake(int hole, boolean wakes) {
            if (hole < 0 || hole >= holes.size()) return BAD;
            if (holes.get(hole).kind() != 4) return CAST;
            boolean was = awake.contains(hole);
            if (wakes) awake.add(hole); else awake.remove(hole);
            return was ? 1 : 0;
        }

        int chain(int hole) {
            if (hole < 0 || hole >= holes.size()) return BAD;
            return holes.get(hole).kind() == 1 ? holes.get(hole).to() : CAST;
        }

        int told(int hole, int what) {
            if (hole < 0 || hole >= holes.size() || what < 0 || what > 4) return BAD;
            Hole h = holes.get(hole);
            return new int[] {h.kind(), h.part(), h.a(), h.b(), stands(hole, versions, guarded) ? 1 : 0}[what];
        }

        int risk() {
            return riskAt(versions, guarded);
        }

        int taken() {
            int bits = 0;
            for (int p : spread(versions, guarded).keySet()) bits += 1 << p;
            return bits;
        }

        int way(int part, int what) {
            if (noPart(part) || what < 0 || what > 2) return BAD;
            Taken t = spread(versions, guarded).get(part);
            if (t == null) return NONE;
            return new int[] {t.step(), t.hole(), t.from()}[what];
        }

        int bestGuard() {
            int best = NONE, most = 0;
            for (int p = 0; p < parts.size(); p++) {
                if (guarded.contains(p)) continue;
                Set<Integer> more = new HashSet<>(guarded);
                more.add(p);
                int less = risk() - riskAt(versions, more);
                if (less > most) {
                    most = less;
                    best = p;
                }
            }
            return best;
        }

        int mend(int part, int version, int hands, int need, int first, int last) {
            if (noPart(part) || version < 1 || version > 9 || hands < 1 || hands > 9) return BAD;
            if (need < -1 || need >= mends.size() || first < 0 || last > 5 || first > last) return BAD;
            if (mends.size() == 8) return FULL;
            mends.add(new Mend(part, version, hands, need, first, last));
            return mends.size() - 1;
        }

        int quarrel(int part, int version, int other, int version2) {
            if (noPart(part) || noPart(other) || part == other) return BAD;
            if (version < 1 || version > 9 || version2 < 1 || version2 > 9) return BAD;
            if (quarrels.size() == 8) return FULL;
            quarrels.add(new Quarrel(part, version, other, version2));
            return quarrels.size();
        }

        int riskWith(int done) {
            return noSet(done) ? BAD : riskAt(versionsWith(done), guarded);
        }

        int sound(int done) {
            return noSet(done) ? BAD : isSound(done) ? 1 : 0;
        }

        int gain(int mend, int done) {
            if (noMend(mend) || noSet(done) || (done >> mend) % 2 == 1) return BAD - 100000;
            return riskWith(done) - riskWith(done + (1 << mend));
        }

        int next(int done) {
            if (noSet(done)) return BAD;
            int best = NONE;
            double most = 0;
            for (int k = 0; k < mends.size(); k++) {
                if ((done >> k) % 2 == 1 || !isSound(done + (1 << k))) continue;
                // The numbers are small, so unlike fractions are farther apart than this.
                double byHands = (double) gain(k, done) / mends.get(k).hands();
                if (byHands > most + 1e-6) {
                    most = byHands;
                    best = k;
                }
            }
            return best;
        }

        int plan(int weeks, int hands) {
            if (weeks < 1 || weeks > 6 || hands < 0 || hands > 99) return BAD;
            if (!isSound(0)) return NOT;
            Search search = new Search(this, weeks, hands);
            search.tryWeek(0, 0, 0);
            plans.add(search.weeksOfMends());
            return search.least;
        }

        int week(int mend) {
            if (noMend(mend)) return BAD;
            return plans.isEmpty() ? NONE : plans.get(plans.size() - 1).getOrDefault(mend, NONE);
        }

        int moved() {
            if (plans.size() < 2) return NONE;
            Map<Integer, Integer> now = plans.get(plans.size() - 1), before = plans.get(plans.size() - 2);
            int bits = 0;
            for (int k = 0; k < mends.size(); k++) {
                if (!now.getOrDefault(k, NONE).equals(before.getOrDefault(k, NONE))) bits += 1 << k;
            }
            return bits;
        }

        int make(int mend) {
            if (noMend(mend)) return BAD;
            Mend m = mends.get(mend);
            if (m.need() >= 0 && versions.get(mends.get(m.need()).part()) < mends.get(m.need()).version()) return NOT;
            Map<Integer, Integer> then = versionsWith(1 << mend);
            if (quarrelAt(then)) return NOT;
            int less = risk() - riskAt(then, guarded);
            versions.putAll(then);
            return less + 100000;
        }

        int count(int what) {
            int standing = 0;
            for (int h = 0; h < holes.size(); h++) standing += told(h, 4);
            int[] counts = {parts.size(), holes.size(), mends.size(), quarrels.size(), standing,
                spread(versions, guarded).size()};
            return what < 0 || what > 5 ? BAD : counts[what];
        }

        private boolean noPart(int n) {
            return n < 0 || n >= parts.size();
        }

        private boolean noMend(int n) {
            return n < 0 || n >= mends.size();
        }

        private boolean noSet(int done) {
            return done < 0 || done >> mends.size() != 0;
        }

        boolean isSound(int done) {
            for (int k = 0; k < mends.size(); k++) {
                int need = mends.get(k).need();
                if ((done >> k) % 2 == 1 && need >= 0 && (done >> need) % 2 == 0) return false;
            }
            return !quarrelAt(versionsWith(done));
        }

        private boolean quarrelAt(Map<Integer, Integer> at) {
            for (Quarrel q : quarrels) {
                if (at.get(q.part()) == q.version() && at.get(q.other()) == q.version2()) return true;
            }
            return false;
        }

        private Map<Integer, Integer> versionsWith(int done) {
            Map<Integer, Integer> then = new HashMap<>(versions);
            for (int k = 0; k < mends.size(); k++) {
                if ((done >> k) % 2 == 1) then.merge(mends.get(k).part(), mends.get(k).version(), Math::max);
            }
            return then;
        }

        private boolean stands(int hole, Map<Integer, Integer> at, Set<Integer> guards) {
            Hole h = holes.get(hole);
            int v = at.get(h.part());
            if (v < h.a() || v > h.b()) return false;
            if (h.kind() == 2 && guards.contains(h.part())) return false;
            return h.kind() != 4 || awake.contains(hole);
        }

        private boolean opens(int hole, Map<Integer, Integer> at, Set<Integer> guards, Set<Integer> before) {
            Hole h = holes.get(hole);
            if (!stands(hole, at, guards)) return false;
            if (h.kind() != 1) return true;
            int part = holes.get(h.to()).part();
            if (part == h.part()) return opens(h.to(), at, guards, before);
            return stands(h.to(), at, guards) && before.contains(part);
        }

        private Map<Integer, Taken> spread(Map<Integer, Integer> at, Set<Integer> guards) {
            Map<Integer, Taken> taken = new HashMap<>();
            for (int step = 1; ; step++) {
                Set<Integer> before = new HashSet<>(taken.keySet());
                for (int p = 0; p < parts.size(); p++) {
                    if (before.contains(p)) continue;
                    int from = parts.get(p).open() ? -1 : leastLinked(p, before);
                    int hole = leastOpening(p, at, guards, before);
                    if (from < 8 && hole >= 0) taken.put(p, new Taken(step, hole, from));
                }
                if (taken.size() == before.size()) return taken;
            }
        }

        private int leastLinked(int part, Set<Integer> before) {
            int from = 0;
            while (from < 8 && !(before.contains(from) && links.contains(new Link(from, part)))) from++;
            return from;
        }

        private int leastOpening(int part, Map<Integer, Integer> at, Set<Integer> guards, Set<Integer> before) {
            for (int h = 0; h < holes.size(); h++) {
                if (holes.get(h).part() == part && opens(h, at, guards, before)) return h;
            }
            return -1;
        }

        private int riskAt(Map<Integer, Integer> at, Set<Integer> guards) {
            int sum = 0;
            for (int p : spread(at, guards).keySet()) {
                boolean used = false;
                for (int h = 0; h < holes.size(); h++) {
                    used |= holes.get(h).kind() == 3 && holes.get(h).part() == p && stands(h, at, guards);
                }
                sum += parts.get(p).worth() * (used ? 2 : 1);
            }
            return sum;
        }
    }

    /** Tries every plan in the order of the document, so that the first of the least is kept. */
    private static final class Search {
        private final Model model;
        private final int weeks, hands, sets;
        private final int[] risks, chosen, best;
        private final boolean[] sound;
        int least = Integer.MAX_VALUE;

        Search(Model model, int weeks, int hands) {
            this.model = model;
            this.weeks = weeks;
            this.hands = hands;
            sets = 1 << model.mends.size();
            risks = new int[sets];
            sound = new boolean[sets];
            for (int s = 0; s < sets; s++) {
                risks[s] = model.riskWith(s);
                sound[s] = model.isSound(s);
            }
            chosen = new int[weeks];
            best = new int[weeks];
        }

        void tryWeek(int week, int done, int sum) {
            if (week == weeks) {
                if (sum + risks[done] < least) {
                    least = sum + risks[done];
                    System.arraycopy(chosen, 0, best, 0, weeks);
                }
                return;
            }
            for (int s = 0; s < sets; s++) {
                if ((s & done) != 0 || !sound[s | done] || !fits(week, s)) continue;
                chosen[week] = s;
                tryWeek(week + 1, done | s, sum + risks[done]);
            }
        }

        private boolean fits(int week, int s) {
            int sum = 0;
            for (int k = 0; k < model.mends.size(); k++) {
                if ((s >> k) % 2 == 0) continue;
                Mend m = model.mends.get(k);
                if (week < m.first() || week > m.last()) return false;
                sum += m.hands();
            }
            return sum <= hands;
        }

        Map<Integer, Integer> weeksOfMends() {
            Map<Integer, Integer> weekOf = new HashMap<>();
            for (int w = 0; w < weeks; w++) {
                for (int k = 0; k < model.mends.size(); k++) {
                    if ((best[w] >> k) % 2 == 1) weekOf.put(k, w);
                }
            }
            return weekOf;
        }
    }
}

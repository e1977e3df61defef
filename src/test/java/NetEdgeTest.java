/** Each sentence on parts and holes that names an edge: empty, full, like, first, last, none. */
public final class NetEdgeTest {
    private static final int BAD = -1, FULL = -3, NONE = -4;

    private static int wrong = 0;
    private static String sentence = "";

    public static void main(String[] args) {
        noPartsAtFirst();
        eachObjectItsOwn();
        partsAsTheyCome();
        guardsNotAtFirst();
        linksEachWay();
        holesAsTheyCome();
        dormantAsleepAtFirst();
        standsByVersion();
        standsByGuard();
        standsAwake();
        stepsTillNoneComes();
        takenByAnOpeningHole();
        takenByALink();
        takenByAChain();
        takenByAChainInThePart();
        riskOfAll();
        riskTwice();
        leastHole();
        leastPart();
        leastPartOfAStepBefore();
        openThoughLate();
        whetherItWas();
        toldOfEachKind();
        noWayIfNotTaken();
        bestGuardOrNone();
        System.out.println(wrong == 0 ? "all edges of the net hold" : wrong + " answers are not as due");
        if (wrong != 0) System.exit(1);
    }

    private static void due(String call, int got, int want) {
        if (got == want) return;
        wrong++;
        System.out.println("\"" + sentence + "\": " + call + " answered " + got + ", due is " + want);
    }

    /** Parts of version 1, all open or none, each with a plain hole of version 1 and the number of its part. */
    private static MendDesk parts(boolean open, int... worths) {
        MendDesk desk = new MendDesk();
        for (int p = 0; p < worths.length; p++) {
            desk.part(1, worths[p], open);
            desk.hole(0, p, 1, 1);
        }
        return desk;
    }

    private static MendDesk openParts(int... worths) {
        return parts(true, worths);
    }

    /** As many parts as there can be, without holes. */
    private static MendDesk bareParts() {
        MendDesk desk = new MendDesk();
        for (int p = 0; p < 8; p++) desk.part(1, 1, true);
        return desk;
    }

    /** A part of version 3 with a hole of each kind of versions 3 .. 5, the dormant one awake. */
    private static MendDesk partOfAllKinds() {
        MendDesk desk = new MendDesk();
        desk.part(3, 1, true);
        int[] kinds = {0, 2, 3, 4};
        for (int kind : kinds) desk.hole(kind, 0, 3, 5);
        desk.chained(0, 3, 5, 0);
        desk.wake(3, true);
        return desk;
    }

    private static void wayIs(MendDesk desk, int part, int step, int hole, int from) {
        due("way(" + part + ", 0)", desk.way(part, 0), step);
        due("way(" + part + ", 1)", desk.way(part, 1), hole);
        due("way(" + part + ", 2)", desk.way(part, 2), from);
    }

    private static void noPartsAtFirst() {
        sentence = "No PARTS.";
        MendDesk desk = new MendDesk();
        for (int what = 0; what <= 5; what++) due("count(" + what + ")", desk.count(what), 0);
        due("risk()", desk.risk(), 0);
        due("taken()", desk.taken(), 0);
        due("bestGuard()", desk.bestGuard(), NONE);
        due("riskWith(0)", desk.riskWith(0), 0);
        due("sound(0)", desk.sound(0), 1);
        due("next(0)", desk.next(0), NONE);
        due("moved()", desk.moved(), NONE);
        due("plan(6, 99)", desk.plan(6, 99), 0);
        due("moved() after one plan", desk.moved(), NONE);
        due("plan(1, 0)", desk.plan(1, 0), 0);
        due("moved() after two", desk.moved(), 0);
    }

    private static void eachObjectItsOwn() {
        sentence = "No PARTS. (each object has its own)";
        MendDesk one = openParts(5), other = new MendDesk();
        one.mend(0, 2, 1, -1, 0, 0);
        one.plan(1, 1);
        due("count(0) of another", other.count(0), 0);
        due("count(1) of another", other.count(1), 0);
        due("count(2) of another", other.count(2), 0);
        due("risk() of another", other.risk(), 0);
        other.part(1, 7, true);
        other.hole(0, 0, 1, 1);
        other.mend(0, 2, 1, -1, 0, 0);
        due("week(0) of another", other.week(0), NONE);
        due("risk() of the first", one.risk(), 5);
    }

    private static void partsAsTheyCome() {
        sentence = "PARTS 0 .. 7, as they come";
        MendDesk desk = new MendDesk();
        for (int p = 0; p < 8; p++) due("part(1, 1, true)", desk.part(1, 1, true), p);
        due("part(1, 1, true) as ninth", desk.part(1, 1, true), FULL);
        due("part(1, 1, true) as tenth", desk.part(1, 1, true), FULL);
        due("count(0)", desk.count(0), 8);
    }

    private static void guardsNotAtFirst() {
        sentence = "GUARDED or not (not at first)";
        MendDesk desk = bareParts();
        for (int p = 0; p < 8; p++) due("guard(" + p + ", true)", desk.guard(p, true), 0);
        for (int p = 0; p < 8; p++) due("guard(" + p + ", true) again", desk.guard(p, true), 1);
    }

    private static void linksEachWay() {
        sentence = "LINKS lead from one to another one (none at first, each way by itself)";
        MendDesk desk = bareParts();
        for (int from = 0; from < 8; from++) {
            for (int to = 0; to < 8; to++) {
                due("link(" + from + ", " + to + ", false)", desk.link(from, to, false), from == to ? BAD : 0);
            }
        }
        due("link(7, 0, true)", desk.link(7, 0, true), 0);
        due("link(0, 7, true)", desk.link(0, 7, true), 0);
        due("link(7, 0, false)", desk.link(7, 0, false), 1);
        due("link(0, 7, true)", desk.link(0, 7, true), 1);
    }

    private static void holesAsTheyCome() {
        sentence = "HOLES 0 .. 11, as they come";
        MendDesk desk = bareParts();
        int[] kinds = {0, 2, 3, 4};
        for (int h = 0; h < 11; h++) due("hole(..)", desk.hole(kinds[h % 4], h % 8, 1, 9), h);
        due("chained(7, 1, 9, 10)", desk.chained(7, 1, 9, 10), 11);
        due("hole(0, 0, 1, 9) as thirteenth", desk.hole(0, 0, 1, 9), FULL);
        due("chained(0, 1, 9, 0) as thirteenth", desk.chained(0, 1, 9, 0), FULL);
        due("chain(11)", desk.chain(11), 10);
    }

    private static void dormantAsleepAtFirst() {
        sentence = "DORMANT (asleep at first)";
        MendDesk desk = bareParts();
        desk.hole(4, 0, 1, 9);
        desk.hole(4, 0, 1, 9);
        due("told(0, 4)", desk.told(0, 4), 0);
        due("told(1, 4)", desk.told(1, 4), 0);
        due("wake(0, false)", desk.wake(0, false), 0);
        due("wake(0, true)", desk.wake(0, true), 0);
        due("told(0, 4)", desk.told(0, 4), 1);
        due("told(1, 4), another one", desk.told(1, 4), 0);
        due("wake(0, true)", desk.wake(0, true), 1);
        due("wake(0, false)", desk.wake(0, false), 1);
        due("told(0, 4)", desk.told(0, 4), 0);
    }

    private static void standsByVersion() {
        sentence = "A HOLE STANDS, if its PART's VERSION is a .. b";
        MendDesk desk = partOfAllKinds();
        desk.hole(0, 0, 1, 1);
        desk.hole(0, 0, 9, 9);
        for (int v = 1; v <= 9; v++) {
            desk.version(0, v);
            for (int h = 0; h < 5; h++) due("told(" + h + ", 4) at " + v, desk.told(h, 4), v >= 3 && v <= 5 ? 1 : 0);
            due("told(5, 4) at " + v, desk.told(5, 4), v == 1 ? 1 : 0);
            due("told(6, 4) at " + v, desk.told(6, 4), v == 9 ? 1 : 0);
        }
    }

    private static void standsByGuard() {
        sentence = "of a SHIELDED one (not of a USED one), the PART is not GUARDED";
        MendDesk desk = partOfAllKinds();
        desk.guard(0, true);
        int[] guarded = {1, 0, 1, 1, 1};
        for (int h = 0; h < 5; h++) due("told(" + h + ", 4) with a guard", desk.told(h, 4), guarded[h]);
        desk.guard(0, false);
        for (int h = 0; h < 5; h++) due("told(" + h + ", 4) without", desk.told(h, 4), 1);
        desk.part(1, 1, true);
        desk.guard(1, true);
        due("told(1, 4) with another part's guard", desk.told(1, 4), 1);
    }

    private static void standsAwake() {
        sentence = "of a DORMANT one, it is awake";
        MendDesk desk = partOfAllKinds();
        desk.wake(3, false);
        due("told(3, 4)", desk.told(3, 4), 0);
        desk.wake(3, true);
        desk.version(0, 6);
        due("told(3, 4), awake at another version", desk.told(3, 4), 0);
    }

    private static void stepsTillNoneComes() {
        sentence = "Steps are 1, 2, .. till none comes.";
        MendDesk row = parts(false, 1, 2, 3, 4, 5, 6, 7, 8);
        for (int p = 7; p > 0; p--) row.link(p, p - 1, true);
        due("taken() with none open", row.taken(), 0);
        MendDesk last = new MendDesk();
        for (int p = 0; p < 8; p++) last.part(1, 1, p == 7);
        for (int p = 0; p < 8; p++) last.hole(0, p, 1, 1);
        for (int p = 7; p > 0; p--) last.link(p, p - 1, true);
        due("taken(), one in each of eight steps", last.taken(), 255);
        for (int p = 0; p < 8; p++) due("way(" + p + ", 0)", last.way(p, 0), 8 - p);
        due("way(0, 2)", last.way(0, 2), 1);
        due("count(5)", last.count(5), 8);
    }

    private static void takenByAnOpeningHole() {
        sentence = "and that has a HOLE that OPENS";
        MendDesk bare = new MendDesk();
        bare.part(1, 9, true);
        due("taken() without a hole", bare.taken(), 0);
        bare.hole(0, 0, 2, 9);
        due("taken() with one that does not stand", bare.taken(), 0);
        bare.hole(0, 0, 1, 1);
        due("taken() with one that does", bare.taken(), 1);
    }

    private static void takenByALink() {
        sentence = "to which a LINK leads from one that was TAKEN in a step before";
        MendDesk pair = new MendDesk();
        pair.part(1, 1, true);
        pair.part(1, 1, false);
        pair.hole(0, 1, 1, 1);
        pair.link(0, 1, true);
        due("taken() by a link from one not taken", pair.taken(), 0);
        pair.hole(0, 0, 1, 1);
        due("taken() by a link from one taken", pair.taken(), 3);
        pair.link(0, 1, false);
        pair.link(1, 0, true);
        due("taken() by a link the other way", pair.taken(), 1);
    }

    private static void takenByAChain() {
        sentence = "of a CHAINED one, that to which it is chained STANDS, and its PART was TAKEN in a step before";
        MendDesk desk = new MendDesk();
        desk.part(1, 1, true);
        desk.part(1, 1, true);
        desk.hole(4, 0, 1, 1);
        desk.chained(1, 1, 1, 0);
        due("taken(), it does not stand", desk.taken(), 0);
        due("told(1, 4), though it stands itself", desk.told(1, 4), 1);
        desk.hole(0, 0, 1, 1);
        due("taken(), its part is, it does not stand", desk.taken(), 1);
        desk.wake(0, true);
        wayIs(desk, 0, 1, 0, -1);
        wayIs(desk, 1, 2, 1, -1);
        MendDesk shut = new MendDesk();
        shut.part(1, 1, false);
        shut.part(1, 1, true);
        shut.hole(0, 0, 1, 1);
        shut.chained(1, 1, 1, 0);
        due("taken(), it stands, its part is not", shut.taken(), 0);
    }

    private static void takenByAChainInThePart() {
        sentence = "(or is the same PART, if that one OPENS, too)";
        MendDesk same = new MendDesk();
        same.part(1, 1, true);
        same.part(1, 1, true);
        same.hole(0, 0, 1, 1);
        same.chained(1, 1, 1, 0);
        same.chained(1, 1, 1, 1);
        wayIs(same, 1, 2, 1, -1);
        same.version(0, 2);
        due("taken(), neither opens", same.taken(), 0);
        MendDesk self = new MendDesk();
        self.part(1, 1, true);
        self.hole(4, 0, 1, 9);
        for (int h = 1; h < 12; h++) self.chained(0, 1, 9, h - 1);
        due("taken() by eleven that hang on one asleep", self.taken(), 0);
        self.wake(0, true);
        wayIs(self, 0, 1, 0, -1);
    }

    private static void riskOfAll() {
        sentence = "RISK is the WORTH of all TAKEN PARTS together";
        due("risk() of nothing", new MendDesk().risk(), 0);
        due("risk() of worth 0", openParts(0).risk(), 0);
        due("taken() of worth 0", openParts(0).taken(), 1);
        due("risk() of the most", openParts(1000, 1000, 1000, 1000, 1000, 1000, 1000, 1000).risk(), 8000);
        due("risk() of shut parts", parts(false, 1000, 1000).risk(), 0);
    }

    private static void riskTwice() {
        sentence = "of those with a USED HOLE that STANDS twice";
        MendDesk twice = new MendDesk();
        for (int p = 0; p < 8; p++) {
            twice.part(1, 1000, true);
            twice.hole(3, p, 1, 1);
        }
        due("risk() of the most twice", twice.risk(), 16000);
        twice.hole(3, 0, 1, 1);
        due("risk() with two used ones in a part", twice.risk(), 16000);
        twice.guard(0, true);
        due("risk() with a guard", twice.risk(), 16000);
        twice.hole(0, 7, 2, 2);
        twice.version(7, 2);
        due("risk(), the used one does not stand", twice.risk(), 15000);
        MendDesk byOther = openParts(10);
        byOther.hole(3, 0, 1, 1);
        due("way(0, 1), taken by another", byOther.way(0, 1), 0);
        due("risk(), taken by another", byOther.risk(), 20);
    }

    private static void leastHole() {
        sentence = "the least HOLE by which it was TAKEN";
        MendDesk desk = new MendDesk();
        desk.part(1, 1, true);
        for (int h = 0; h < 11; h++) desk.hole(0, 0, 2, 2);
        desk.hole(0, 0, 1, 1);
        due("way(0, 1) by the last", desk.way(0, 1), 11);
        desk.version(0, 2);
        due("way(0, 1) by the first", desk.way(0, 1), 0);
    }

    private static void leastPart() {
        sentence = "the least PART from which a LINK led (-1: it is OPEN)";
        MendDesk star = new MendDesk();
        for (int p = 0; p < 8; p++) star.part(1, 1, p > 0);
        for (int p = 0; p < 8; p++) star.hole(0, p, 1, 1);
        star.link(7, 0, true);
        wayIs(star, 0, 2, 0, 7);
        star.link(6, 0, true);
        wayIs(star, 0, 2, 0, 6);
        star.link(1, 0, true);
        wayIs(star, 0, 2, 0, 1);
        star.link(0, 7, true);
        star.link(1, 7, true);
        wayIs(star, 7, 1, 7, -1);
    }

    private static void leastPartOfAStepBefore() {
        sentence = "the least PART from which a LINK led (of those TAKEN in a step before)";
        MendDesk late = new MendDesk();
        late.part(1, 1, false);
        late.part(1, 1, false);
        late.part(1, 1, true);
        for (int p = 0; p < 3; p++) late.hole(0, p, 1, 1);
        late.link(2, 0, true);
        late.link(2, 1, true);
        late.link(0, 1, true);
        wayIs(late, 1, 2, 1, 2);
        late.link(2, 1, false);
        wayIs(late, 1, 3, 1, 0);
    }

    private static void openThoughLate() {
        sentence = "OPEN, and TAKEN late by a CHAINED HOLE: -1 all the same";
        MendDesk desk = new MendDesk();
        desk.part(1, 1, true);
        desk.part(1, 1, false);
        desk.part(1, 1, true);
        desk.hole(0, 0, 1, 1);
        desk.hole(0, 1, 1, 1);
        desk.chained(2, 1, 1, 1);
        desk.link(0, 1, true);
        desk.link(0, 2, true);
        wayIs(desk, 2, 3, 2, -1);
    }

    private static void whetherItWas() {
        sentence = "whether it was (1, 0)";
        MendDesk desk = openParts(1, 1);
        boolean[] there = {false, true, true, false, false};
        int[] want = {0, 0, 1, 1, 0};
        for (int i = 0; i < 5; i++) {
            due("link(0, 1, " + there[i] + ")", desk.link(0, 1, there[i]), want[i]);
            due("guard(1, " + there[i] + ")", desk.guard(1, there[i]), want[i]);
        }
    }

    private static void toldOfEachKind() {
        sentence = "0 KIND, 1 PART, 2 a, 3 b, 4 whether it STANDS";
        MendDesk kinds = new MendDesk();
        for (int p = 0; p < 8; p++) kinds.part(9, 1, true);
        for (int kind = 0; kind < 5; kind++) {
            if (kind == 1) kinds.chained(7, 1, 9, 0);
            else kinds.hole(kind, 7, 1, 9);
            int[] told = {kind, 7, 1, 9, kind == 4 ? 0 : 1};
            for (int what = 0; what < 5; what++) due("told(" + kind + ", " + what + ")", kinds.told(kind, what), told[what]);
            due("told(" + kind + ", -1)", kinds.told(kind, -1), BAD);
            due("told(" + kind + ", 5)", kinds.told(kind, 5), BAD);
        }
    }

    private static void noWayIfNotTaken() {
        sentence = "NONE: it is not TAKEN.";
        MendDesk desk = openParts(1, 1);
        desk.version(0, 2);
        for (int what = 0; what < 3; what++) due("way(0, " + what + ")", desk.way(0, what), NONE);
        desk.version(0, 1);
        wayIs(desk, 0, 1, 0, -1);
    }

    private static void bestGuardOrNone() {
        sentence = "(of like ones the least). NONE: none would.";
        MendDesk guards8 = new MendDesk();
        for (int p = 0; p < 8; p++) {
            guards8.part(1, 10, true);
            guards8.hole(2, p, 1, 1);
        }
        for (int p = 0; p < 8; p++) {
            due("bestGuard() of like ones", guards8.bestGuard(), p);
            guards8.guard(p, true);
        }
        due("bestGuard() with all guarded", guards8.bestGuard(), NONE);
        guards8.guard(7, false);
        due("bestGuard() with the last not guarded", guards8.bestGuard(), 7);
        due("bestGuard() of plain holes", openParts(10, 20).bestGuard(), NONE);
        MendDesk free = new MendDesk();
        free.part(1, 0, true);
        free.hole(2, 0, 1, 1);
        due("bestGuard() of worth 0", free.bestGuard(), NONE);
        free.part(1, 1, true);
        free.hole(2, 1, 1, 1);
        due("bestGuard() of the least worth", free.bestGuard(), 1);
        due("guard(1, true): asking set none", free.guard(1, true), 0);
    }
}

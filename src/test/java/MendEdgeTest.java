/** Each sentence on mends and plans that names an edge: empty, full, like, first, last, none. */
public final class MendEdgeTest {
    private static final int BAD = -1, NOT = -2, FULL = -3, NONE = -4, GAIN_BAD = -100001;

    private static int wrong = 0;
    private static String sentence = "";

    public static void main(String[] args) {
        mendsAsTheyCome();
        needCameAhead();
        greatestVersionDone();
        quarrelsUpToEight();
        needInTheSet();
        bitOfNone();
        gainRefused();
        gainFarthest();
        nextOrNone();
        nextByFraction();
        nextIsSound();
        handsOfAWeek();
        weeksOfAMend();
        soundInEachWeek();
        sumOfAPlan();
        firstOfLikePlans();
        planOfTheUnsound();
        weekOrNone();
        weekOfNoMend();
        movedOrNone();
        movedToAnother();
        makeRaisesOnly();
        makeLeavesTheRest();
        makeFarthest();
        makeAgainstAQuarrel();
        makeEndsAQuarrel();
        makeByItsNeed();
        countsFull();
        lastCalls();
        System.out.println(wrong == 0 ? "all edges of mends and plans hold" : wrong + " answers are not as due");
        if (wrong != 0) System.exit(1);
    }

    private static void due(String call, int got, int want) {
        if (got == want) return;
        wrong++;
        System.out.println("\"" + sentence + "\": " + call + " answered " + got + ", due is " + want);
    }

    /** Open parts of version 1, each with a plain hole of version 1 and the number of its part. */
    private static MendDesk openParts(int... worths) {
        MendDesk desk = new MendDesk();
        for (int p = 0; p < worths.length; p++) {
            desk.part(1, worths[p], true);
            desk.hole(0, p, 1, 1);
        }
        return desk;
    }

    private static void weeksAre(MendDesk desk, int... want) {
        for (int k = 0; k < want.length; k++) due("week(" + k + ")", desk.week(k), want[k]);
    }

    private static void mendsAsTheyCome() {
        sentence = "MENDS 0 .. 7, as they come";
        MendDesk desk = openParts(10, 20);
        for (int k = 0; k < 8; k++) due("mend(0, 2, 1, ..)", desk.mend(0, 2, 1, k - 1, 0, 5), k);
        due("mend(0, 2, 1, 7, 0, 5) as ninth", desk.mend(0, 2, 1, 7, 0, 5), FULL);
        due("count(2)", desk.count(2), 8);
    }

    private static void needCameAhead() {
        sentence = "may NEED another MEND (that came ahead)";
        MendDesk needs = openParts(10);
        due("need of itself", needs.mend(0, 2, 1, 0, 0, 5), BAD);
        due("no need", needs.mend(0, 2, 1, -1, 0, 5), 0);
        due("need of one to come", needs.mend(0, 2, 1, 1, 0, 5), BAD);
        due("need of the one ahead", needs.mend(0, 2, 1, 0, 0, 5), 1);
    }

    private static void greatestVersionDone() {
        sentence = "the greatest VERSION of those DONE for it, if that is above its own; else its own";
        MendDesk done = openParts(10);
        done.version(0, 5);
        done.hole(3, 0, 5, 5);
        done.hole(0, 0, 6, 6);
        done.mend(0, 4, 1, -1, 0, 5);
        done.mend(0, 5, 1, -1, 0, 5);
        done.mend(0, 6, 1, -1, 0, 5);
        done.mend(0, 7, 1, -1, 0, 5);
        int[] want = {20, 20, 20, 20, 10, 10, 10, 10, 0, 0, 0, 0, 0, 0, 0, 0};
        for (int s = 0; s < 16; s++) due("riskWith(" + s + ")", done.riskWith(s), want[s]);
    }

    private static void quarrelsUpToEight() {
        sentence = "QUARRELS, up to 8";
        MendDesk quarrels = openParts(1, 1);
        for (int q = 1; q <= 8; q++) due("quarrel(0, 9, 1, " + q + ")", quarrels.quarrel(0, 9, 1, q), q);
        due("quarrel(0, 9, 1, 9) as ninth", quarrels.quarrel(0, 9, 1, 9), FULL);
        due("count(3)", quarrels.count(3), 8);
        quarrels.version(0, 9);
        for (int v = 1; v <= 9; v++) {
            quarrels.version(1, v);
            due("sound(0) at 9 and " + v, quarrels.sound(0), v == 9 ? 1 : 0);
        }
        quarrels.version(0, 8);
        quarrels.version(1, 8);
        due("sound(0) at 8 and 8", quarrels.sound(0), 1);
    }

    private static void needInTheSet() {
        sentence = "(and each MEND's NEED is in it)";
        MendDesk chain = openParts(1);
        for (int k = 0; k < 8; k++) chain.mend(0, 2, 1, k - 1, 0, 5);
        for (int s = 0; s < 256; s++) due("sound(" + s + ")", chain.sound(s), (s & s + 1) == 0 ? 1 : 0);
    }

    private static void bitOfNone() {
        sentence = "BAD: a bit of none.";
        MendDesk desk = openParts(10);
        due("riskWith(0) without mends", desk.riskWith(0), 10);
        due("riskWith(1) without mends", desk.riskWith(1), BAD);
        desk.mend(0, 2, 1, -1, 0, 5);
        due("riskWith(1)", desk.riskWith(1), 0);
        due("riskWith(2)", desk.riskWith(2), BAD);
        due("riskWith(3), one of them none", desk.riskWith(3), BAD);
        due("riskWith(1 << 31)", desk.riskWith(1 << 31), BAD);
        due("sound(3)", desk.sound(3), BAD);
        due("next(3)", desk.next(3), BAD);
    }

    private static void gainRefused() {
        sentence = "BAD less 100000 (-100001): also it is in the set.";
        MendDesk desk = openParts(10);
        desk.mend(0, 2, 1, -1, 0, 5);
        due("gain(0, 1)", desk.gain(0, 1), GAIN_BAD);
        due("gain(0, 2)", desk.gain(0, 2), GAIN_BAD);
        due("gain(1, 0)", desk.gain(1, 0), GAIN_BAD);
        due("gain(0, 0)", desk.gain(0, 0), 10);
    }

    private static void gainFarthest() {
        sentence = "GAIN of a MEND behind a set (the greatest and the least there can be)";
        MendDesk all = new MendDesk();
        for (int p = 0; p < 8; p++) {
            all.part(1, 1000, p == 0);
            all.hole(3, p, 1, 1);
            if (p > 0) all.link(p - 1, p, true);
        }
        all.mend(0, 2, 1, -1, 0, 5);
        all.mend(0, 3, 9, -1, 0, 5);
        due("gain(0, 0)", all.gain(0, 0), 16000);
        all.hole(3, 0, 3, 3);
        due("gain(1, 1)", all.gain(1, 1), -16000);
        due("gain(1, 0)", all.gain(1, 0), 0);
    }

    private static void nextOrNone() {
        sentence = "NONE: there is none with a GAIN above 0.";
        due("next(0) without mends", openParts(10).next(0), NONE);
        MendDesk nought = openParts(0, 10);
        nought.mend(0, 2, 1, -1, 0, 5);
        due("next(0), a gain of 0", nought.next(0), NONE);
        nought.hole(3, 1, 2, 2);
        nought.mend(1, 2, 1, -1, 0, 5);
        due("gain(1, 0)", nought.gain(1, 0), -10);
        due("next(0), a gain below 0", nought.next(0), NONE);
        MendDesk least = openParts(1);
        least.mend(0, 2, 9, -1, 0, 5);
        due("next(0), a gain of 1 by 9 hands", least.next(0), 0);
        due("next(1), all in the set", least.next(1), NONE);
    }

    private static void nextByFraction() {
        sentence = "the greatest GAIN by HANDS (a fraction); of like ones the least";
        MendDesk thirds = openParts(10, 7, 1000, 889);
        thirds.mend(0, 2, 3, -1, 0, 5);
        thirds.mend(1, 2, 2, -1, 0, 5);
        due("next(0): 10/3 and 7/2", thirds.next(0), 1);
        thirds.mend(3, 2, 8, -1, 0, 5);
        thirds.mend(2, 2, 9, -1, 0, 5);
        due("next(0): 889/8 and 1000/9", thirds.next(0), 2);
        MendDesk like = openParts(9, 1, 2);
        like.mend(2, 2, 2, -1, 0, 5);
        like.mend(1, 2, 1, -1, 0, 5);
        like.mend(0, 2, 9, -1, 0, 5);
        due("next(0) of like ones", like.next(0), 0);
        due("next(1) of like ones", like.next(1), 1);
        due("next(3), the last", like.next(3), 2);
    }

    private static void nextIsSound() {
        sentence = "of which it is SOUND to do it, too";
        MendDesk desk = openParts(9, 1, 2);
        desk.mend(2, 2, 2, -1, 0, 5);
        desk.mend(1, 2, 1, -1, 0, 5);
        desk.mend(0, 2, 9, -1, 0, 5);
        desk.quarrel(2, 2, 0, 1);
        due("next(0), the first quarrels", desk.next(0), 1);
        due("next(4), it quarrels no more", desk.next(4), 0);
        due("next(1), only the last ends it", desk.next(1), 2);
        desk.mend(0, 3, 1, 1, 0, 5);
        due("next(0), the need is not in it", desk.next(0), 1);
        due("next(2), the need is in it", desk.next(2), 3);
    }

    private static void handsOfAWeek() {
        sentence = "no more HANDS in a WEEK than H";
        MendDesk all = new MendDesk();
        for (int k = 0; k < 8; k++) {
            all.part(1, 100, true);
            all.hole(0, k, 1, 1);
            all.mend(k, 2, 9, -1, 0, 5);
        }
        due("plan(1, 72)", all.plan(1, 72), 800);
        weeksAre(all, 0, 0, 0, 0, 0, 0, 0, 0);
        due("plan(1, 71)", all.plan(1, 71), 900);
        due("plan(1, 99)", all.plan(1, 99), 800);
        due("plan(1, 9)", all.plan(1, 9), 1500);
        due("plan(1, 8)", all.plan(1, 8), 1600);
        due("plan(1, 0)", all.plan(1, 0), 1600);
        due("plan(6, 0)", all.plan(6, 0), 5600);
        weeksAre(all, NONE, NONE, NONE, NONE, NONE, NONE, NONE, NONE);
        due("plan(6, 9)", all.plan(6, 9), 800 + 700 + 600 + 500 + 400 + 300 + 200);
        weeksAre(all, 0, 1, 2, 3, 4, 5, NONE, NONE);
    }

    private static void weeksOfAMend() {
        sentence = "each in its WEEKS";
        for (int first = 0; first <= 5; first++) {
            for (int weeks = 1; weeks <= 6; weeks++) {
                MendDesk one = openParts(10);
                one.mend(0, 2, 1, -1, first, 5);
                boolean inTime = first < weeks;
                due("plan(" + weeks + ", 1), first " + first, one.plan(weeks, 1), 10 * (inTime ? first + 1 : weeks + 1));
                due("week(0), first " + first, one.week(0), inTime ? first : NONE);
            }
        }
        // The second waits for its need, which comes no sooner than first.
        for (int first = 0; first <= 5; first++) {
            for (int last = 0; last <= 5; last++) {
                MendDesk two = openParts(0, 10);
                two.mend(0, 2, 1, -1, first, 5);
                two.mend(1, 2, 1, 0, 0, last);
                boolean inTime = first <= last;
                due("plan(6, 2), " + first + " and " + last, two.plan(6, 2), inTime ? 10 * (first + 1) : 70);
                weeksAre(two, inTime ? first : NONE, inTime ? first : NONE);
            }
        }
    }

    private static void soundInEachWeek() {
        sentence = "with those of a WEEK and all ahead DONE the set is SOUND";
        MendDesk desk = openParts(100, 90);
        desk.mend(0, 2, 1, -1, 0, 5);
        desk.mend(1, 2, 1, -1, 0, 5);
        desk.quarrel(0, 2, 1, 1);
        due("plan(1, 1), the better one quarrels", desk.plan(1, 1), 190 + 100);
        weeksAre(desk, NONE, 0);
        due("plan(1, 2), both at once", desk.plan(1, 2), 190);
        desk.quarrel(0, 2, 1, 2);
        due("plan(6, 2), never the first", desk.plan(6, 2), 190 + 6 * 100);
        weeksAre(desk, NONE, 0);
        MendDesk need = openParts(0, 90);
        need.mend(0, 2, 1, -1, 0, 5);
        need.mend(1, 2, 1, 0, 0, 5);
        due("plan(1, 1), the need takes the week", need.plan(1, 1), 180);
        due("plan(1, 2), the need in the same week", need.plan(1, 2), 90);
        weeksAre(need, 0, 0);
        due("plan(2, 1), the need a week ahead", need.plan(2, 1), 180);
        weeksAre(need, 0, 1);
    }

    private static void sumOfAPlan() {
        sentence = "of RISK with what was DONE ahead of each WEEK, over all WEEKS, and RISK with all DONE, once";
        MendDesk most = new MendDesk();
        for (int p = 0; p < 8; p++) {
            most.part(1, 1000, true);
            most.hole(3, p, 1, 9);
        }
        due("plan(6, 99) of the most", most.plan(6, 99), 7 * 16000);
        due("plan(1, 99) of the most", most.plan(1, 99), 2 * 16000);
    }

    private static void firstOfLikePlans() {
        sentence = "of such the first by WEEKS: the set of WEEK 0 as bits is less, then that of WEEK 1, ..";
        MendDesk idle = openParts(10);
        for (int k = 0; k < 8; k++) idle.mend(0, 1, 1, -1, 0, 5);
        due("plan(6, 99), none gains", idle.plan(6, 99), 70);
        weeksAre(idle, NONE, NONE, NONE, NONE, NONE, NONE, NONE, NONE);
        MendDesk either = openParts(10);
        for (int k = 0; k < 8; k++) either.mend(0, 9 - k, 1, -1, 0, 5);
        due("plan(6, 99), any will do", either.plan(6, 99), 10);
        weeksAre(either, 0, NONE, NONE, NONE, NONE, NONE, NONE, NONE);
        MendDesk last = openParts(10);
        last.mend(0, 2, 1, -1, 5, 5);
        last.mend(0, 2, 1, -1, 4, 5);
        due("plan(6, 1), the earlier week is less risk", last.plan(6, 1), 50);
        weeksAre(last, NONE, 4);
        MendDesk gap = openParts(10);
        gap.mend(0, 2, 1, -1, 5, 5);
        gap.mend(0, 2, 1, -1, 0, 0);
        due("plan(1, 1), the first is not in time", gap.plan(1, 1), 10);
        weeksAre(gap, NONE, 0);
        MendDesk later = openParts(0, 10);
        later.mend(0, 2, 1, -1, 0, 5);
        later.mend(1, 2, 1, 0, 5, 5);
        due("plan(6, 2), the need no sooner than it must", later.plan(6, 2), 60);
        weeksAre(later, 5, 5);
        due("plan(6, 1)", later.plan(6, 1), 60);
        weeksAre(later, 4, 5);
        MendDesk bits = openParts(30, 10, 20);
        bits.mend(0, 2, 2, -1, 0, 0);
        bits.mend(1, 2, 1, -1, 0, 0);
        bits.mend(2, 2, 1, -1, 0, 0);
        due("plan(1, 2): 1 or 6", bits.plan(1, 2), 60 + 30);
        weeksAre(bits, 0, NONE, NONE);
    }

    private static void planOfTheUnsound() {
        sentence = "NOT: what is, with none DONE, is not SOUND.";
        MendDesk desk = openParts(10, 20);
        desk.mend(0, 2, 1, -1, 0, 5);
        desk.quarrel(0, 1, 1, 1);
        due("plan(1, 1), though a mend would end it", desk.plan(1, 1), NOT);
        due("week(0)", desk.week(0), NONE);
        desk.version(0, 2);
        due("plan(1, 1), mended", desk.plan(1, 1), 40);
        due("week(0)", desk.week(0), NONE);
    }

    private static void weekOrNone() {
        sentence = "NONE: none, or there was no PLAN, or it is newer.";
        MendDesk weeks = openParts(10, 20, 30);
        weeks.mend(0, 2, 1, -1, 0, 0);
        due("week(0), no plan", weeks.week(0), NONE);
        due("plan(0, 1)", weeks.plan(0, 1), BAD);
        due("week(0), a refused plan", weeks.week(0), NONE);
        weeks.plan(1, 0);
        due("week(0), none", weeks.week(0), NONE);
        weeks.plan(1, 1);
        due("week(0), the first", weeks.week(0), 0);
        weeks.mend(1, 2, 1, -1, 5, 5);
        due("week(1), newer", weeks.week(1), NONE);
        due("week(0), as it was", weeks.week(0), 0);
        weeks.plan(6, 9);
        due("week(1), the last", weeks.week(1), 5);
    }

    private static void weekOfNoMend() {
        sentence = "BAD. (a number of no MEND, whether there was a PLAN or not)";
        MendDesk none = new MendDesk();
        due("week(0), no mends, no plan", none.week(0), BAD);
        none.plan(1, 1);
        due("week(0), no mends, a plan", none.week(0), BAD);
        MendDesk one = openParts(10);
        one.mend(0, 2, 1, -1, 0, 5);
        due("week(1) of one, no plan", one.week(1), BAD);
        one.plan(1, 1);
        due("week(1) of one, a plan", one.week(1), BAD);
        due("week(-1)", one.week(-1), BAD);
    }

    private static void movedOrNone() {
        sentence = "NONE: there were not two.";
        MendDesk few = openParts(1, 1);
        due("moved(), no plan", few.moved(), NONE);
        due("plan(1, 99)", few.plan(1, 99), 4);
        due("moved(), one plan", few.moved(), NONE);
        due("plan(0, 99)", few.plan(0, 99), BAD);
        due("plan(1, 100)", few.plan(1, 100), BAD);
        due("moved(), two more that are BAD", few.moved(), NONE);
        few.quarrel(0, 1, 1, 1);
        due("plan(1, 99)", few.plan(1, 99), NOT);
        due("plan(6, 0)", few.plan(6, 0), NOT);
        due("moved(), two more that are NOT", few.moved(), NONE);
        few.version(0, 2);
        due("plan(1, 99)", few.plan(1, 99), 2);
        due("moved(), two plans", few.moved(), 0);
    }

    private static void movedToAnother() {
        sentence = "in another WEEK than by the PLAN before (or in one, or none, now)";
        MendDesk desk = openParts(1, 1, 1, 1, 1, 1, 1, 1);
        for (int k = 0; k < 8; k++) desk.mend(k, 2, 1, -1, 0, 5);
        desk.plan(1, 99);
        desk.plan(6, 99);
        due("moved(), all in the same week", desk.moved(), 0);
        desk.plan(6, 0);
        due("moved(), all to none", desk.moved(), 255);
        desk.plan(6, 0);
        due("moved(), none again", desk.moved(), 0);
        desk.plan(6, 1);
        due("moved(), six to one", desk.moved(), 63);
        desk.plan(6, 2);
        due("moved(), all but the first to another", desk.moved(), 254);
        due("moved(), asked again", desk.moved(), 254);
        due("plan(7, 2)", desk.plan(7, 2), BAD);
        due("moved(), a refused one behind", desk.moved(), 254);
        MendDesk newer = openParts(10, 10);
        newer.plan(1, 1);
        newer.mend(0, 2, 1, -1, 0, 5);
        newer.mend(1, 2, 1, -1, 0, 5);
        newer.plan(1, 1);
        due("moved(), a newer one in a week", newer.moved(), 1);
    }

    private static void makeRaisesOnly() {
        sentence = "its PART has the VERSION now, if that is above its own";
        for (int own = 1; own <= 9; own++) {
            MendDesk desk = openParts(10);
            desk.mend(0, 5, 1, -1, 0, 5);
            desk.version(0, own);
            due("make(0) at " + own, desk.make(0), own == 1 ? 100010 : 100000);
            due("version(0, 1) then", desk.version(0, 1), Math.max(own, 5));
        }
    }

    private static void makeLeavesTheRest() {
        sentence = "the MEND, QUARRELS, PLANS stay";
        MendDesk stay = openParts(10, 10);
        stay.mend(0, 2, 1, -1, 1, 5);
        stay.quarrel(0, 2, 1, 2);
        stay.plan(2, 1);
        stay.plan(1, 1);
        stay.plan(2, 1);
        due("make(0)", stay.make(0), 100010);
        due("make(0) again", stay.make(0), 100000);
        due("count(2)", stay.count(2), 1);
        due("count(3)", stay.count(3), 1);
        due("week(0)", stay.week(0), 1);
        due("moved()", stay.moved(), 1);
    }

    private static void makeFarthest() {
        sentence = "How much RISK is less, and 100000 more. (the most and the least there can be)";
        MendDesk most = new MendDesk();
        for (int p = 0; p < 8; p++) {
            most.part(1, 1000, p == 7);
            most.hole(3, p, 1, 1);
            if (p > 0) most.link(p, p - 1, true);
        }
        most.hole(3, 7, 3, 3);
        most.mend(7, 2, 1, -1, 0, 5);
        most.mend(7, 3, 1, -1, 0, 5);
        due("make(0)", most.make(0), 116000);
        due("make(1)", most.make(1), 84000);
    }

    private static void makeAgainstAQuarrel() {
        sentence = "NOT: a QUARREL would hold then";
        MendDesk quarrel = openParts(10, 10);
        quarrel.mend(0, 5, 1, -1, 0, 5);
        quarrel.quarrel(1, 2, 0, 5);
        for (int v = 1; v <= 3; v++) {
            quarrel.version(0, 1);
            quarrel.version(1, v);
            due("make(0) beside " + v, quarrel.make(0), v == 2 ? NOT : 100010);
            due("version(0, 1) then", quarrel.version(0, 1), v == 2 ? 1 : 5);
        }
        quarrel.version(1, 2);
        quarrel.version(0, 6);
        due("make(0), above it, so none holds", quarrel.make(0), 100000);
        quarrel.version(0, 5);
        due("make(0), it holds already", quarrel.make(0), NOT);
    }

    private static void makeEndsAQuarrel() {
        sentence = "NOT: a QUARREL would hold then (one that it ends is none)";
        MendDesk ends = openParts(10, 10);
        ends.mend(0, 2, 1, -1, 0, 5);
        ends.quarrel(0, 1, 1, 1);
        due("make(0)", ends.make(0), 100010);
    }

    private static void makeByItsNeed() {
        sentence = "or its NEED's PART has not that one's VERSION, or a greater one";
        for (int v = 1; v <= 9; v++) {
            MendDesk need = openParts(10, 20);
            need.mend(0, 5, 1, -1, 0, 5);
            need.mend(1, 2, 1, 0, 0, 5);
            need.version(0, v);
            due("make(1), its need's part at " + v, need.make(1), v < 5 ? NOT : 100020);
        }
        MendDesk own = openParts(10);
        own.mend(0, 2, 1, -1, 0, 5);
        own.mend(0, 3, 1, 0, 0, 5);
        due("make(1), a need of its own part", own.make(1), NOT);
        due("make(0)", own.make(0), 100010);
        due("make(1)", own.make(1), 100000);
        due("version(0, 1) then", own.version(0, 1), 3);
    }

    private static void countsFull() {
        sentence = "How many: 0 PARTS, 1 HOLES, 2 MENDS, 3 QUARRELS, 4 HOLES that STAND, 5 PARTS that are TAKEN.";
        MendDesk desk = new MendDesk();
        for (int p = 0; p < 8; p++) desk.part(1, 1, true);
        for (int h = 0; h < 12; h++) desk.hole(0, h % 8, 1, 1);
        for (int k = 0; k < 8; k++) desk.mend(k, 2, 1, -1, 0, 5);
        for (int q = 0; q < 8; q++) desk.quarrel(q, 9, (q + 1) % 8, 9);
        int[] full = {8, 12, 8, 8, 12, 8};
        for (int what = 0; what <= 5; what++) due("count(" + what + "), full", desk.count(what), full[what]);
        desk.part(1, 1, true);
        desk.hole(0, 0, 1, 1);
        desk.mend(0, 2, 1, -1, 0, 5);
        desk.quarrel(0, 1, 1, 1);
        for (int what = 0; what <= 5; what++) due("count(" + what + "), refused more", desk.count(what), full[what]);
        for (int p = 0; p < 8; p++) desk.version(p, 2);
        due("count(4), none stands", desk.count(4), 0);
        due("count(5), none is taken", desk.count(5), 0);
        due("count(-1)", desk.count(-1), BAD);
        due("count(6)", desk.count(6), BAD);
    }

    /** The dearest call at the most of all, up to the last that is promised. */
    private static void lastCalls() {
        sentence = "An object is used for at most 512 calls";
        MendDesk desk = new MendDesk();
        int calls = 0;
        for (int k = 0; k < 8; k++) {
            desk.part(1, 100, true);
            desk.hole(0, k, 1, 1);
            desk.mend(k, 2, 9, -1, 0, 5);
            calls += 3;
        }
        while (calls < 511) {
            int hands = calls % 2 == 0 ? 72 : 71;
            due("plan(6, " + hands + ") as call " + calls, desk.plan(6, hands), hands == 72 ? 800 : 900);
            calls++;
        }
        due("moved() as the last call", desk.moved(), 128);
    }
}

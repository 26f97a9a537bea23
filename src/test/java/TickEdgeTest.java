/**
 * The boundary cases of Term 2, a method for each sentence that names one: the last TICK of a
 * TIMER and the one ahead of it, the first and the last DELAY, a step that just is made or not.
 * All TICKS are told by the CLOCK at which they begin.
 */
public final class TickEdgeTest extends Scenes {
    private TickEdgeTest() {
    }

    public static void main(String[] args) {
        becomesLit();
        isLitNoMore();
        cutLosesNotes();
        notesComeWithEachDelay();
        notesWrap();
        framesComeWithEachDelay();
        framesComeCableByCable();
        frameComesInStageThree();
        frameIsDroppedInStageTwo();
        frameIsDroppedInStageZero();
        notInStepByAnotherSystem();
        notInStepByAnotherKey();
        notInStepByAnotherPriority();
        inStepThoughBitsAreOther();
        owesForBitsAlone();
        owesUntilItIsPut();
        timerOfTheFirstOld();
        timerOfQuick();
        timerOfNinety();
        noteInTheLastTick();
        fitsUntilNone();
        noneForgetsAll();
        fitsByPartnersKey();
        fitsByPartnersSystem();
        bundleByPartnersSystem();
        bundleByKeys();
        bundleOfTheLastPort();
        chosenByPriorityThenNumber();
        chosenByStrongersNumbers();
        waitIsTwo();
        stageZeroByOwnKey();
        stageZeroByPartnersKey();
        stageZeroByPartnersSystem();
        stageZeroWhenNotChosen();
        stageFourToThreeToTwo();
        oneStepATick();
        pauseOfThirty();
        pauseOfOneForQuick();
        pauseOfOneWhileOld();
        noneIsActive();
        partnerIsActive();
        firstNoteSinceLit();
        lostNoteCounts();
        changesAndBackTellNothing();
        conversationsMoveWithGivers();
        agrees();
        Checks.end();
    }

    private static void dueView(String when, BundlePair x, int end, int view, int timer) {
        dueLook(when, x, end, 0, 3, view);
        dueLook(when, x, end, 0, 4, timer);
    }

    /** "A PORT that becomes LIT: VIEW OLD, TIMER 3, ... STAGE 0." */
    private static void becomesLit() {
        BundlePair x = new BundlePair();
        x.tick(5);
        x.plug(0, 0, 0, 1);
        for (int end = 0; end < 2; end++) {
            dueView("plugged", x, end, 1, 3);
            dueLook("plugged", x, end, 0, 5, 0);
            dueLook("plugged", x, end, 0, 13, 0);
        }
        x.light(0, false);
        x.tick(5);
        x.light(0, true);
        dueView("UP", x, 0, 1, 3);
        dueView("UP", x, 1, 1, 3);
    }

    /** "One that is not LIT any more: VIEW DARK, TIMER 0, STAGE 0, PARTNER all 0." */
    private static void isLitNoMore() {
        for (int way = 0; way < 2; way++) {
            BundlePair x = joined(8);
            dueLook("LIT", x, 1, 7, 12, 7);
            if (way == 0) {
                x.light(7, false);
            } else {
                x.pull(7);
            }
            for (int end = 0; end < 2; end++) {
                dueLook("not LIT", x, end, 7, 2, end == 0 ? 5 : 4);
                int[] facts = {0, 0, 0, -1, 0, way == 0 ? 7 : -1, 0, 0, 0, 0, 0};
                for (int what = 3; what <= 13; what++) {
                    dueLook("not LIT", x, end, 7, what, facts[what - 3]);
                }
            }
            x.tick(100);
            dueLook("DARK stays", x, 0, 7, 3, 0);
            dueLook("DARK stays", x, 0, 7, 4, 0);
            dueLook("another PORT is LIT yet", x, 0, 6, 5, 4);
        }
    }

    /** "What is on a CABLE that is cut or PLUGGED anew is lost." */
    private static void cutLosesNotes() {
        BundlePair x = new BundlePair();
        join(x, 0, 3);
        x.tick(3);
        dueCable("three NOTES", x, 0, 7, 3);
        x.light(0, false);
        dueCable("cut", x, 0, 7, 0);
        x.light(0, true);
        x.tick(3);
        dueLook("lost", x, 1, 0, 15, 0);
        x.plug(0, 0, 0, 3);
        x.tick(3);
        dueLook("lost", x, 1, 0, 15, 0);
        x.tick(1);
        dueLook("the first that was not lost", x, 1, 0, 15, 1);
    }

    /** (a) "What was put on each CABLE ... DELAY TICKS ago comes to its other side". */
    private static void notesComeWithEachDelay() {
        for (int delay = 1; delay <= 8; delay++) {
            BundlePair x = new BundlePair();
            join(x, 0, delay);
            x.tick(delay);
            dueLook("DELAY " + delay, x, 1, 0, 15, 0);
            dueCable("DELAY " + delay, x, 0, 7, delay);
            x.tick(1);
            dueLook("DELAY " + delay, x, 1, 0, 15, 1);
            dueView("DELAY " + delay, x, 1, 2, 90);
        }
    }

    /** (a): a NOTE in each TICK, with DELAY 8, for many TICKS: as many come as were put. */
    private static void notesWrap() {
        BundlePair x = new BundlePair();
        join(x, 0, 8);
        x.manner(1, 0, false, true);
        for (int i = 0; i < 40; i++) {
            x.tick(1);
            dueLook("a NOTE in each TICK", x, 0, 0, 14, i + 1);
            dueLook("a NOTE in each TICK", x, 1, 0, 15, Math.max(0, i - 7));
            dueCable("a NOTE in each TICK", x, 0, 7, Math.min(8, i + 1));
        }
        x.port(0, 0, 5, 77);
        x.tick(8);
        dueLook("the eight that were put ahead", x, 1, 0, 11, 100);
        x.tick(1);
        dueLook("the first behind them", x, 1, 0, 11, 77);
    }

    /** "(the DELAY is from the CLOCK at which it was given on)". */
    private static void framesComeWithEachDelay() {
        for (int delay = 1; delay <= 8; delay++) {
            BundlePair x = new BundlePair();
            join(x, 0, delay);
            x.tick(60);
            Checks.due("DELAY " + delay + ": give", x.give(1, 0, 0, delay), 0);
            Checks.due("DELAY " + delay + ": tick(" + delay + ")", x.tick(delay), 0);
            dueCable("DELAY " + delay, x, 0, 6, 1);
            Checks.due("DELAY " + delay + ": tick(1)", x.tick(1), 1);
            Checks.due("DELAY " + delay + ": came(0, 0, 3)", x.came(0, 0, 3), 60 + delay);
        }
    }

    /** (a) "each CABLE (0 first) ... in the order in which it was put on it". */
    private static void framesComeCableByCable() {
        BundlePair x = new BundlePair();
        x.port(0, 0, 5, 100);
        x.port(0, 1, 5, 100);
        x.port(1, 0, 7, 100);
        x.port(1, 1, 7, 100);
        x.manner(0, 0, true, false);
        x.manner(0, 1, true, false);
        x.plug(7, 0, 1, 1);
        x.plug(3, 1, 0, 2);
        x.tick(60);
        Checks.due("DELAY 2", x.give(0, 0, 1, 31), 1);
        Checks.due("DELAY 2", x.give(0, 0, 3, 32), 1);
        x.tick(1);
        Checks.due("DELAY 1", x.give(0, 0, 0, 33), 0);
        Checks.due("DELAY 1", x.give(0, 0, 2, 34), 0);
        Checks.due("tick(2)", x.tick(2), 4);
        int[] latestFirst = {34, 33, 32, 31};
        for (int i = 0; i < 4; i++) {
            Checks.due("CABLE 3 ahead of 7: came(1, " + i + ", 2)", x.came(1, i, 2), latestFirst[i]);
            Checks.due("in one TICK: came(1, " + i + ", 3)", x.came(1, i, 3), 62);
            Checks.due("its PORT there: came(1, " + i + ", 0)", x.came(1, i, 0), i < 2 ? 1 : 0);
        }
    }

    /** (a) "A FRAME comes to the END if its PORT COLLECTS": so in STAGE 3. */
    private static void frameComesInStageThree() {
        BundlePair x = new BundlePair();
        join(x, 0, 1);
        x.tick(5);
        dueStages("5 TICKS", x, 0, 2, 2);
        x.lose(0, 0, 100);
        x.tick(2);
        dueStages("END 1 does not know that END 0 COLLECTS", x, 0, 4, 3);
        Checks.due("give", x.give(0, 0, 0, 5), 0);
        Checks.due("tick(2)", x.tick(2), 1);
        dueLook("COLLECTS", x, 1, 0, 5, 3);
        dueLook("COLLECTS", x, 1, 0, 2, 4 + 8 + 16);
        dueCount("none is DROPPED", x, 8, 0);
    }

    /** (a) "else it is DROPPED": one comes in the TICK in which COLLECTS ends, one in the next. */
    private static void frameIsDroppedInStageTwo() {
        BundlePair x = joined(1);
        x.tick(2);
        x.lose(0, 0, 100);
        x.tick(x.look(1, 0, 4) - 2);
        dueView("two TICKS ahead of OLD", x, 1, 2, 2);
        Checks.due("give", x.give(0, 0, 0, 1), 0);
        x.tick(1);
        Checks.due("give", x.give(0, 0, 0, 2), 0);
        Checks.due("(a) is ahead of (d): tick(1)", x.tick(1), 1);
        dueLook("OLD", x, 1, 0, 5, 2);
        dueCount("none is DROPPED", x, 8, 0);
        Checks.due("tick(1)", x.tick(1), 0);
        dueCount("DROPPED", x, 8, 1);
        Checks.due("the one that came", x.came(1, 0, 2), 1);
    }

    /** (a) "else it is DROPPED": counted for both ENDS, not as one that came, was cut or is on it. */
    private static void frameIsDroppedInStageZero() {
        for (int end = 0; end < 2; end++) {
            BundlePair x = joined(1);
            x.port(1 - end, 0, 0, 100);
            Checks.due("give", x.give(end, 0, 0, 1), 0);
            Checks.due("tick(3)", x.tick(3), 0);
            dueCount("DROPPED", x, 8, 1);
            dueCount("DROPPED", x, 9, 0);
            dueCable("DROPPED", x, 0, 5 + end, 0);
            int to = 1 - end;
            Checks.dueMissing("DROPPED", () -> x.came(to, 0, 0));
        }
    }

    /** Both ENDS tell something new at once, so both NOTES name a PARTNER as it was. */
    private static BundlePair crossing() {
        BundlePair x = joined(1);
        x.tick(13);
        x.manner(0, 0, true, true);
        return x;
    }

    /** (a) "IN STEP only if the NOTE's PARTNER has the SYSTEM ... of this PORT". */
    private static void notInStepByAnotherSystem() {
        BundlePair x = crossing();
        x.system(1, 21);
        x.tick(2);
        dueLook("another SYSTEM", x, 1, 0, 13, 63 - 8);
        dueLook("another SYSTEM", x, 1, 0, 5, 2);
    }

    /** (a) "... KEY ...": another one, or 0 and no 4 in its BITS. */
    private static void notInStepByAnotherKey() {
        for (int key = 0; key <= 8; key += 8) {
            BundlePair x = crossing();
            x.port(1, 0, key, 100);
            x.tick(2);
            dueLook("KEY " + key, x, 1, 0, 13, 63 - 8);
            dueLook("KEY " + key, x, 0, 0, 10, key);
        }
    }

    /** (a) "... PRIORITY ...". */
    private static void notInStepByAnotherPriority() {
        BundlePair x = crossing();
        x.port(1, 0, 7, 101);
        x.tick(2);
        dueLook("another PRIORITY", x, 1, 0, 13, 63 - 8);
        dueLook("another PRIORITY", x, 1, 0, 5, 2);
    }

    /** (a) "and 4 in its BITS just if this PORT's has": the other BITS do not count for IN STEP. */
    private static void inStepThoughBitsAreOther() {
        BundlePair x = crossing();
        x.manner(1, 0, true, true);
        x.tick(2);
        dueLook("other BITS", x, 1, 0, 13, 63);
        dueStages("other BITS", x, 0, 4, 4);
    }

    /** (a) "If the NOTE's PARTNER is not just OWN of this PORT (all five), the PORT OWES a NOTE." */
    private static void owesForBitsAlone() {
        BundlePair x = joined(1);
        x.tick(30);
        int put = x.look(1, 0, 14);
        x.manner(1, 0, false, true);
        x.tick(1);
        dueCable("both put a NOTE at CLOCK 37", x, 0, 7, 1);
        dueLook("both put a NOTE at CLOCK 37", x, 1, 0, 14, put + 1);
        x.tick(1);
        dueLook("END 0's NOTE knew no QUICK", x, 1, 0, 14, put + 2);
        x.tick(5);
        dueLook("END 0's NOTES know QUICK", x, 1, 0, 14, put + 2);
    }

    /** (e) "or it OWES one ... It OWES none then": it does until then. */
    private static void owesUntilItIsPut() {
        BundlePair x = joined(1);
        x.tick(31);
        int put = x.look(0, 0, 14);
        dueCable("a NOTE that knows END 0 as ACTIVE", x, 0, 8, 1);
        x.manner(0, 0, false, false);
        x.tick(1);
        dueLook("not ACTIVE, nor is PARTNER", x, 0, 0, 14, put);
        x.manner(0, 0, true, false);
        x.tick(1);
        dueLook("OWN is as in the last NOTE, but one is OWED", x, 0, 0, 14, put + 1);
        x.tick(1);
        dueLook("none is OWED", x, 0, 0, 14, put + 1);
    }

    /** (b) "TIMER is one less; when it is 0 then: ... OLD becomes NONE". */
    private static void timerOfTheFirstOld() {
        BundlePair x = new BundlePair();
        x.plug(0, 0, 0, 1);
        int[][] views = {{1, 2}, {1, 1}, {3, 0}, {3, 0}, {3, 0}};
        for (int[] view : views) {
            x.tick(1);
            dueView("OLD since it is LIT", x, 0, view[0], view[1]);
            dueView("OLD since it is LIT", x, 1, view[0], view[1]);
        }
    }

    /** (a) "TIMER 3 if the PORT is QUICK"; (b) "NEW becomes OLD, TIMER 3". */
    private static void timerOfQuick() {
        BundlePair x = joined(1);
        x.manner(1, 0, false, true);
        x.tick(20);
        x.lose(0, 0, 100);
        int[][] views = {{2, 3}, {2, 2}, {2, 1}, {1, 3}, {1, 2}, {1, 1}, {3, 0}, {3, 0}};
        for (int i = 0; i < views.length; i++) {
            x.tick(1);
            dueView("TICK " + i + " of LOST NOTES", x, 1, views[i][0], views[i][1]);
            dueLook("TICK " + i + " of LOST NOTES", x, 1, 0, 9, i < 6 ? 10 : 0);
            dueLook("TICK " + i + " of LOST NOTES", x, 1, 0, 13, i < 3 ? 61 : i < 6 ? 5 : 0);
        }
    }

    /** (a) "else 90": the last NOTE comes at CLOCK 8, so it is OLD at CLOCK 98, NONE at 101. */
    private static void timerOfNinety() {
        BundlePair x = joined(1);
        x.tick(2);
        dueCount("the last NOTE came", x, 0, 9);
        dueView("the last NOTE came", x, 1, 2, 90);
        x.lose(0, 0, 100);
        x.tick(89);
        dueView("89 TICKS without a NOTE", x, 1, 2, 1);
        dueLook("89 TICKS without a NOTE", x, 1, 0, 13, 61);
        x.tick(1);
        dueView("90 TICKS without a NOTE", x, 1, 1, 3);
        dueLook("90 TICKS without a NOTE", x, 1, 0, 13, 5);
        x.tick(2);
        dueView("92 TICKS without a NOTE", x, 1, 1, 1);
        x.tick(1);
        dueView("93 TICKS without a NOTE", x, 1, 3, 0);
    }

    /** (b) "and got no NOTE in this TICK": that of CLOCK 97 comes just in time, at CLOCK 98. */
    private static void noteInTheLastTick() {
        for (int lost = 2; lost <= 3; lost++) {
            BundlePair x = joined(1);
            x.tick(2);
            x.lose(0, 0, lost);
            x.tick(89);
            dueView("CLOCK 98", x, 1, 2, 1);
            x.tick(1);
            dueView(lost + " LOST, CLOCK 99", x, 1, lost == 2 ? 2 : 1, lost == 2 ? 90 : 3);
            dueStages(lost + " LOST, CLOCK 99", x, 0, 4, lost == 2 ? 4 : 2);
        }
    }

    /** (c) "a PORT FITS if it is OLD or NEW": until it is NONE. */
    private static void fitsUntilNone() {
        BundlePair x = joined(1);
        x.tick(2);
        x.lose(0, 0, 100);
        x.tick(92);
        dueView("OLD", x, 1, 1, 1);
        dueLook("OLD", x, 1, 0, 6, 0);
        dueLook("OLD", x, 1, 0, 7, 1);
        dueLook("OLD", x, 1, 0, 5, 2);
        x.tick(1);
        dueLook("NONE", x, 1, 0, 6, -1);
        dueLook("NONE", x, 1, 0, 7, 0);
        dueLook("NONE", x, 1, 0, 5, 0);
    }

    /** (b) "OLD becomes NONE, PARTNER is all 0". */
    private static void noneForgetsAll() {
        BundlePair x = new BundlePair();
        join(x, 7, 1);
        x.tick(9);
        x.lose(0, 7, 100);
        x.tick(92);
        int[] kept = {10, 5, 100, 7, 5};
        for (int what = 9; what <= 13; what++) {
            dueLook("OLD", x, 1, 7, what, kept[what - 9]);
        }
        x.tick(1);
        for (int what = 9; what <= 13; what++) {
            dueLook("NONE", x, 1, 7, what, 0);
        }
    }

    /** (c) "PARTNER's SYSTEM and KEY are" above 0: the least SYSTEM is 1. */
    private static void fitsByPartnersSystem() {
        for (int end = 0; end < 2; end++) {
            BundlePair x = new BundlePair();
            join(x, 0, 1);
            x.system(end, 1);
            x.tick(7);
            dueLook("PARTNER's SYSTEM is 1", x, 1 - end, 0, 9, 1);
            dueLook("PARTNER's SYSTEM is 1", x, 1 - end, 0, 6, 0);
            dueStages("PARTNER's SYSTEM is 1", x, 0, 4, 4);
        }
    }

    /** (c) "PARTNER's SYSTEM and KEY are": a PARTNER's KEY that becomes 0, and 1 again. */
    private static void fitsByPartnersKey() {
        BundlePair x = joined(1);
        x.port(0, 0, 0, 100);
        x.tick(1);
        dueLook("not told yet", x, 1, 0, 6, 0);
        x.tick(1);
        dueLook("PARTNER's KEY is 0", x, 1, 0, 6, -1);
        x.port(0, 0, 1, 100);
        x.tick(2);
        dueLook("PARTNER's KEY is 1", x, 1, 0, 6, 0);
    }

    /** (c) "like KEYS, PARTNER's SYSTEMS and PARTNER's KEYS": while one knows the new SYSTEM alone. */
    private static void bundleByPartnersSystem() {
        BundlePair x = new BundlePair();
        join(x, 0, 1);
        join(x, 1, 4);
        x.tick(60);
        dueLook("one BUNDLE", x, 0, 1, 6, 0);
        x.system(1, 30);
        x.tick(2);
        dueLook("PARTNER's SYSTEM", x, 0, 0, 9, 30);
        dueLook("PARTNER's SYSTEM", x, 0, 1, 9, 20);
        dueLook("a BUNDLE of its own", x, 0, 1, 6, 1);
        x.tick(2);
        dueLook("a BUNDLE of its own", x, 0, 1, 6, 1);
        x.tick(1);
        dueLook("PARTNER's SYSTEM", x, 0, 1, 9, 30);
        dueLook("one BUNDLE", x, 0, 1, 6, 0);
    }

    /** (c) "like KEYS ... and PARTNER's KEYS": each alone parts them. */
    private static void bundleByKeys() {
        BundlePair x = new BundlePair();
        for (int i = 0; i < 4; i++) {
            join(x, i, 1);
        }
        x.port(0, 1, 6, 100);
        x.port(1, 2, 8, 100);
        x.tick(20);
        for (int i = 0; i < 4; i++) {
            dueLook("BUNDLES", x, 0, i, 6, i % 3);
            dueLook("BUNDLES", x, 1, i, 6, i % 3);
        }
    }

    /** (c) "whose number is that of its least PORT": PORT 7 alone, and by and by lesser ones. */
    private static void bundleOfTheLastPort() {
        BundlePair x = new BundlePair();
        for (int least = 7; least >= 0; least--) {
            join(x, least, 1);
            x.tick(20);
            for (int i = least; i < 8; i++) {
                dueLook("BUNDLE " + least, x, 1, i, 6, least);
            }
            Checks.due("give to BUNDLE " + least, x.give(1, least, 0, 0), least);
            Checks.due("give to what it was", x.give(1, least + 1, 0, 0), -1);
        }
    }

    /** (c) "the first by PRIORITY (the lesser first), then number". */
    private static void chosenByPriorityThenNumber() {
        BundlePair x = new BundlePair();
        int[] priorities = {65535, 32768, 32767, 0, 32768, 1, 0, 65535};
        int[] places = {6, 4, 3, 0, 5, 2, 1, 7};
        for (int i = 0; i < 8; i++) {
            join(x, i, 1);
            x.port(0, i, 5, priorities[i]);
        }
        for (int limit = 1; limit <= 8; limit++) {
            x.limit(0, limit);
            x.tick(10);
            for (int i = 0; i < 8; i++) {
                dueLook("LIMIT " + limit, x, 0, i, 7, places[i] < limit ? 1 : 0);
                dueCable("LIMIT " + limit, x, i, 4, places[i] < limit ? 1 : 0);
            }
        }
    }

    /** (c) "of the STRONGER END's PORTS (its own, or PARTNER's as kept)". */
    private static void chosenByStrongersNumbers() {
        BundlePair x = new BundlePair();
        for (int i = 0; i < 3; i++) {
            x.port(0, i, 5, 100);
            x.port(1, i, 7, 100 - i);
            x.manner(0, i, true, false);
            x.plug(i, i, 2 - i, 1);
        }
        x.limit(1, 1);
        x.tick(40);
        for (int i = 0; i < 3; i++) {
            dueLook("PARTNER's number", x, 1, i, 7, i == 2 ? 1 : 0);
        }
        x.port(0, 1, 5, 99);
        x.tick(40);
        for (int i = 0; i < 3; i++) {
            dueLook("PARTNER's PRIORITY", x, 1, i, 7, i == 1 ? 1 : 0);
        }
        x.system(1, 9);
        x.port(1, 0, 7, 98);
        x.tick(40);
        for (int i = 0; i < 3; i++) {
            dueLook("its own PRIORITY, then number", x, 1, i, 7, i == 0 ? 1 : 0);
        }
    }

    /** (d) "from 0 to 1, its WAIT being 2; in 1 WAIT is one less, and it goes to 2 when that is 0". */
    private static void waitIsTwo() {
        BundlePair x = new BundlePair();
        join(x, 0, 1);
        int[][] stages = {{0, 0}, {0, 1}, {1, 1}, {1, 2}, {2, 2}, {3, 3}, {4, 4}, {4, 4}};
        int[] bits = {0, 0, 8, 8 + 16, 8 + 16 + 32};
        for (int[] pair : stages) {
            x.tick(1);
            dueStages("behind TICK " + x.count(0), x, 0, pair[0], pair[1]);
            dueLook("behind TICK " + x.count(0), x, 0, 0, 2, 5 + bits[pair[0]]);
            dueLook("behind TICK " + x.count(0), x, 1, 0, 2, 4 + bits[pair[1]]);
        }
    }

    /** (d) "or its KEY ... is another one than as it left STAGE 0: to 0", though it is CHOSEN. */
    private static void stageZeroByOwnKey() {
        for (int ticks = 3; ticks <= 7; ticks++) {
            BundlePair x = new BundlePair();
            join(x, 0, 1);
            x.tick(ticks);
            x.port(0, 0, 6, 100);
            x.tick(1);
            dueLook("another KEY behind " + ticks + " TICKS", x, 0, 0, 7, 1);
            dueLook("another KEY behind " + ticks + " TICKS", x, 0, 0, 5, 0);
            x.tick(1);
            dueLook("it leaves STAGE 0 with that KEY", x, 0, 0, 5, 1);
        }
        BundlePair y = joined(1);
        y.port(0, 0, 6, 100);
        y.port(0, 0, 5, 100);
        y.tick(1);
        dueStages("another KEY, and back without a TICK", y, 0, 4, 4);
    }

    /** (d) "PARTNER's KEY is another one". */
    private static void stageZeroByPartnersKey() {
        BundlePair x = joined(1);
        x.port(0, 0, 6, 100);
        x.tick(1);
        dueLook("not told yet", x, 1, 0, 5, 4);
        x.tick(1);
        dueLook("another PARTNER's KEY", x, 1, 0, 7, 1);
        dueLook("another PARTNER's KEY", x, 1, 0, 5, 0);
    }

    /** (d) "PARTNER's SYSTEM ... is another one". */
    private static void stageZeroByPartnersSystem() {
        BundlePair x = joined(1);
        x.tick(5);
        x.system(0, 11);
        x.tick(1);
        dueStages("not told yet", x, 0, 4, 4);
        x.tick(1);
        dueLook("another PARTNER's SYSTEM", x, 1, 0, 7, 1);
        dueLook("another PARTNER's SYSTEM", x, 1, 0, 5, 0);
    }

    /** (d) "if it is not CHOSEN ...: to 0", from each STAGE. */
    private static void stageZeroWhenNotChosen() {
        for (int ticks = 2; ticks <= 7; ticks++) {
            BundlePair x = new BundlePair();
            join(x, 0, 1);
            join(x, 1, 1);
            x.tick(ticks);
            x.limit(1, 1);
            x.tick(1);
            dueLook("LIMIT 1 behind " + ticks + " TICKS", x, 1, 1, 5, 0);
            dueLook("LIMIT 1 behind " + ticks + " TICKS", x, 1, 1, 6, 0);
            dueLook("LIMIT 1 behind " + ticks + " TICKS", x, 1, 0, 7, 1);
        }
    }

    /** (d) "from 4 to 3 if PARTNER is IN STEP and does not COLLECT"; "from 3 or 4 to 2 ...". */
    private static void stageFourToThreeToTwo() {
        BundlePair x = joined(1);
        x.manner(1, 0, true, false);
        x.tick(2);
        x.lose(0, 0, 100);
        x.tick(90);
        dueStages("END 1 forgot that END 0 is IN STEP: 4 to 2", x, 0, 4, 2);
        x.tick(1);
        dueLook("END 1 is IN STEP, but does not COLLECT", x, 0, 0, 13, 1 + 4 + 8);
        dueStages("4 to 3", x, 0, 3, 2);
        x.tick(1);
        dueStages("3 stays", x, 0, 3, 2);
        x.tick(1);
        dueStages("END 1 is NONE", x, 0, 3, 0);
        x.tick(1);
        dueLook("END 1 is not IN STEP", x, 0, 0, 13, 1 + 4);
        dueStages("END 1 is APART, 3 to 2", x, 0, 2, 0);
    }

    /** (d) "makes one step at most": PARTNER is IN STEP and COLLECTS, STAGE 2 goes to 3 alone. */
    private static void oneStepATick() {
        BundlePair x = new BundlePair();
        join(x, 0, 1);
        x.tick(4);
        x.lose(0, 0, 1);
        x.tick(2);
        dueStages("END 0's IN STEP was LOST", x, 0, 3, 2);
        x.tick(1);
        dueLook("IN STEP and COLLECTS, both told at once", x, 1, 0, 13, 1 + 4 + 8 + 16);
        dueStages("2 to 3 alone", x, 0, 3, 3);
        x.tick(1);
        dueStages("3 to 4", x, 0, 4, 4);
    }

    /** (e) "30 if it is NEW and PARTNER is not QUICK": both put their last at CLOCK 7. */
    private static void pauseOfThirty() {
        BundlePair x = joined(1);
        x.tick(1);
        for (int end = 0; end < 2; end++) {
            dueCable("CLOCK 7", x, 0, 7 + end, 1);
        }
        int put = x.look(0, 0, 14);
        x.tick(29);
        dueLook("29 TICKS have gone by", x, 0, 0, 14, put);
        dueLook("29 TICKS have gone by", x, 1, 0, 14, put);
        x.tick(1);
        dueLook("30 TICKS have gone by", x, 0, 0, 14, put + 1);
        dueLook("30 TICKS have gone by", x, 1, 0, 14, put + 1);
        x.tick(29);
        dueLook("59 TICKS have gone by", x, 0, 0, 14, put + 1);
        x.tick(1);
        dueLook("60 TICKS have gone by", x, 0, 0, 14, put + 2);
    }

    /** (e) "else 1": PARTNER is QUICK; that the PORT itself is does not count. */
    private static void pauseOfOneForQuick() {
        BundlePair x = joined(1);
        x.tick(5);
        x.manner(1, 0, false, true);
        x.tick(3);
        int end0 = x.look(0, 0, 14);
        int end1 = x.look(1, 0, 14);
        x.tick(10);
        dueLook("PARTNER is QUICK", x, 0, 0, 14, end0 + 10);
        dueLook("QUICK, but PARTNER is not", x, 1, 0, 14, end1);
    }

    /** (e) "else 1": OLD, or NONE. */
    private static void pauseOfOneWhileOld() {
        BundlePair x = joined(1);
        x.tick(2);
        x.lose(1, 0, 100);
        x.tick(89);
        int put = x.look(0, 0, 14);
        dueView("NEW", x, 0, 2, 1);
        for (int i = 1; i <= 6; i++) {
            x.tick(1);
            dueLook("OLD or NONE, TICK " + i, x, 0, 0, 14, put + i);
        }
        dueView("NONE", x, 0, 3, 0);
    }

    /** (e) "that is ACTIVE, or keeps a PARTNER that is": neither, so no NOTE at all. */
    private static void noneIsActive() {
        BundlePair x = new BundlePair();
        join(x, 0, 1);
        x.manner(0, 0, false, true);
        x.tick(50);
        for (int end = 0; end < 2; end++) {
            dueLook("none is ACTIVE", x, end, 0, 14, 0);
            dueView("none is ACTIVE", x, end, 3, 0);
        }
        dueCable("none is ACTIVE", x, 0, 4, 0);
    }

    /** (e) "or keeps a PARTNER that is": in the very TICK in which it is told so, till it forgets. */
    private static void partnerIsActive() {
        BundlePair x = new BundlePair();
        join(x, 0, 1);
        x.tick(1);
        dueLook("not told yet", x, 1, 0, 14, 0);
        x.tick(1);
        dueLook("told", x, 1, 0, 14, 1);
        x.tick(7);
        x.manner(0, 0, false, false);
        x.tick(92);
        int put = x.look(1, 0, 14);
        dueView("OLD", x, 1, 1, 1);
        dueLook("OLD, PARTNER is ACTIVE as kept", x, 1, 0, 13, 5);
        x.tick(1);
        dueView("NONE", x, 1, 3, 0);
        dueLook("forgotten in (b), ahead of (e)", x, 1, 0, 14, put);
    }

    /** (e) "the last NOTE that it put there since it became LIT (or there was none)". */
    private static void firstNoteSinceLit() {
        BundlePair x = new BundlePair();
        join(x, 0, 1);
        x.tick(1);
        dueLook("the first", x, 0, 0, 14, 1);
        x.light(0, false);
        x.tick(1);
        dueLook("DARK", x, 0, 0, 14, 1);
        x.light(0, true);
        x.tick(1);
        dueLook("the first since it is LIT", x, 0, 0, 14, 2);
        BundlePair y = joined(1);
        y.tick(10);
        int put = y.look(0, 0, 14);
        y.plug(0, 0, 0, 1);
        y.tick(1);
        dueLook("the first since it was PLUGGED anew", y, 0, 0, 14, put + 1);
    }

    /** (e) "(A NOTE that is to be LOST is put nowhere, but counts for this.)" */
    private static void lostNoteCounts() {
        BundlePair x = joined(1);
        x.tick(1);
        int put = x.look(0, 0, 14);
        x.lose(0, 0, 1);
        x.port(0, 0, 5, 99);
        x.tick(1);
        dueLook("LOST", x, 0, 0, 14, put + 1);
        dueCable("put nowhere", x, 0, 7, 0);
        x.tick(29);
        dueLook("29 TICKS since the LOST one", x, 0, 0, 14, put + 1);
        dueLook("not told", x, 1, 0, 11, 100);
        x.tick(1);
        dueLook("30 TICKS since the LOST one", x, 0, 0, 14, put + 2);
        x.tick(1);
        dueLook("told", x, 1, 0, 11, 99);
    }

    /** (e) "if its OWN is not as in the last NOTE": it is, when changed and back without a TICK. */
    private static void changesAndBackTellNothing() {
        BundlePair x = joined(1);
        x.tick(5);
        int put = x.look(0, 0, 14);
        x.port(0, 0, 5, 99);
        x.port(0, 0, 5, 100);
        x.manner(0, 0, true, true);
        x.manner(0, 0, true, false);
        x.tick(1);
        dueLook("as in the last NOTE", x, 0, 0, 14, put);
        x.manner(0, 0, true, true);
        x.tick(1);
        dueLook("not as in the last NOTE", x, 0, 0, 14, put + 1);
    }

    /** "the PORT with number c modulo n (from 0 on, by number) among the n PORTS ... in STAGE 4". */
    private static void conversationsMoveWithGivers() {
        BundlePair x = joined(4);
        x.light(1, false);
        int[] three = {0, 2, 3, 0, 2, 3};
        for (int c = 0; c < 6; c++) {
            Checks.due("three PORTS: give(0, 0, " + c + ", 0)", x.give(0, 0, c, 0), three[c]);
        }
        x.light(0, false);
        Checks.due("two PORTS, its number is 0 yet", x.give(0, 0, 1, 0), 3);
        x.tick(1);
        Checks.due("its number is 2", x.give(0, 2, 254, 0), 2);
        x.light(2, false);
        x.tick(1);
        Checks.due("one PORT", x.give(0, 3, 255, 0), 3);
    }

    /** Term 3: "A CABLE AGREES if it is UP, both PORTS' KEYS are above 0, and one of them is ACTIVE." */
    private static void agrees() {
        for (int i = 0; i < 32; i++) {
            boolean up = (i & 1) != 0;
            int key0 = i >> 1 & 1;
            int key1 = i >> 2 & 1;
            boolean active0 = (i & 8) != 0;
            boolean active1 = (i & 16) != 0;
            BundlePair x = new BundlePair();
            x.port(0, 0, key0, 100);
            x.port(1, 0, key1, 100);
            x.manner(0, 0, active0, false);
            x.manner(1, 0, active1, false);
            x.plug(0, 0, 0, 1);
            if (!up) {
                x.light(0, false);
            }
            boolean meant = up && key0 > 0 && key1 > 0 && (active0 || active1);
            dueCable("case " + i, x, 0, 4, meant ? 1 : 0);
            x.tick(400);
            dueStages("case " + i, x, 0, meant ? 4 : 0, meant ? 4 : 0);
            dueCount("case " + i, x, 10, 0);
        }
    }
}

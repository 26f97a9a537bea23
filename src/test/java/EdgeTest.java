/**
 * The boundary cases of the promises, a method for each sentence that names one: the least and
 * the greatest that is taken, empty, full, and a ring that wraps. Refused calls: RefusedTest;
 * the boundary cases of a TICK's steps: TickEdgeTest.
 */
public final class EdgeTest extends Scenes {
    private EdgeTest() {
    }

    public static void main(String[] args) {
        newHasNoCable();
        newHasNoBundle();
        systemLeastAndGreatest();
        systemItsOwn();
        systemThatTheOtherHad();
        systemOneLessAndOneMore();
        limitLeastAndGreatest();
        limitOfEight();
        portLeastAndGreatest();
        portKeyZero();
        portKeyOne();
        mannerLeastAndGreatest();
        plugLeastAndGreatest();
        plugAllPorts();
        plugSamePlace();
        plugHalfMoved();
        plugWherePulled();
        plugCutIsUp();
        pullLosesAll();
        pullCut();
        lightBothWays();
        loseNone();
        loseHundred();
        loseInPlace();
        loseByEndAndCable();
        loseAheadOfPlug();
        tickOne();
        tickThousand();
        tickCountsBothEnds();
        giveConversations();
        giveNoSuchBundle();
        giveNoneInStageFour();
        giveTwoHundred();
        giveWraps();
        cameNone();
        cameFifty();
        cameWraps();
        cameAnotherWhat();
        cameValues();
        lookBundleWithoutTick();
        lookBundleNotLit();
        lookBundleLitAgain();
        lookAnotherWhat();
        lookNotesStay();
        cableNotPlugged();
        cableCut();
        cableMeantByLimits();
        cableMeantByStronger();
        cableAnotherWhat();
        noteBytes();
        noteNone();
        countAnotherWhat();
        countAlwaysZero();
        countOfALongQuiet();
        countQuiet();
        countCutOff();
        Checks.end();
    }

    /** Promise 1: "No CABLE is PLUGGED". */
    private static void newHasNoCable() {
        BundlePair x = new BundlePair();
        for (int i = 0; i < 8; i++) {
            dueCable("new", x, i, 0, -1);
            dueCable("new", x, i, 3, 0);
            dueLook("new", x, 0, i, 8, -1);
            dueLook("new", x, 1, i, 8, -1);
        }
    }

    /** Promise 1: a new pair has nothing to bring, and no BUNDLE. */
    private static void newHasNoBundle() {
        BundlePair x = new BundlePair();
        for (int bundle = -1; bundle <= 8; bundle++) {
            Checks.due("new: give(0, " + bundle + ", 0, 0)", x.give(0, bundle, 0, 0), -1);
        }
        Checks.due("new: tick(1000)", x.tick(1000), 0);
        for (int i = 0; i < 8; i++) {
            Checks.due("new, ticked: give(1, " + i + ", 0, 0)", x.give(1, i, 0, 0), -1);
            dueLook("new, ticked", x, 1, i, 3, 0);
            dueLook("new, ticked", x, 1, i, 6, -1);
            dueLook("new, ticked", x, 1, i, 14, 0);
        }
    }

    /** Promise 2: "it is not 1 to 1000000". */
    private static void systemLeastAndGreatest() {
        BundlePair x = new BundlePair();
        Checks.due("system(0, 1)", x.system(0, 1), 10);
        Checks.due("system(1, 1000000)", x.system(1, 1000000), 20);
        Checks.due("system(0, 999999)", x.system(0, 999999), 1);
        Checks.due("system(1, 1)", x.system(1, 1), 1000000);
        Checks.due("system(0, 1000000)", x.system(0, 1000000), 999999);
        dueCount("system", x, 2, 1000000);
        dueCount("system", x, 3, 1);
    }

    /** Promise 2: "the other END has it", not the END itself. */
    private static void systemItsOwn() {
        BundlePair x = joined(1);
        Checks.due("system(0, 10)", x.system(0, 10), 10);
        Checks.due("system(1, 20)", x.system(1, 20), 20);
        dueCount("its own SYSTEM", x, 1, 0);
        x.tick(10);
        dueStages("its own SYSTEM", x, 0, 4, 4);
    }

    /** Promise 2: what the other END has no more is free. */
    private static void systemThatTheOtherHad() {
        BundlePair x = new BundlePair();
        Checks.dueBadState("system(1, 10)", () -> x.system(1, 10));
        x.system(0, 20 + 1);
        Checks.due("system(1, 10)", x.system(1, 10), 20);
        Checks.due("system(0, 20)", x.system(0, 20), 21);
        Checks.dueBadState("system(0, 10)", () -> x.system(0, 10));
    }

    /** Term 1: "END 0 is the STRONGER one if its SYSTEM is not greater": one less, one more. */
    private static void systemOneLessAndOneMore() {
        for (int system = 19; system <= 21; system += 2) {
            BundlePair x = new BundlePair();
            join(x, 0, 1);
            join(x, 1, 1);
            x.port(0, 1, 5, 99);
            x.limit(0, 1);
            x.system(0, system);
            int meant = system < 20 ? 1 : 0;
            dueCable("SYSTEM " + system + " and 20", x, meant, 4, 1);
            dueCable("SYSTEM " + system + " and 20", x, 1 - meant, 4, 0);
            x.tick(3);
            dueLook("SYSTEM " + system + " and 20", x, 0, meant, 7, 1);
            dueLook("SYSTEM " + system + " and 20", x, 0, 1 - meant, 7, 0);
        }
    }

    /** Promise 3: "it is not 1 to 8". */
    private static void limitLeastAndGreatest() {
        BundlePair x = new BundlePair();
        Checks.due("limit(0, 1)", x.limit(0, 1), 8);
        Checks.due("limit(1, 8)", x.limit(1, 8), 8);
        Checks.due("limit(0, 8)", x.limit(0, 8), 1);
        Checks.due("limit(1, 1)", x.limit(1, 1), 8);
        dueCount("limit", x, 4, 8);
        dueCount("limit", x, 5, 1);
    }

    /** Term 2 (c): "CHOSEN are as many as LIMIT tells", for each LIMIT and eight PORTS. */
    private static void limitOfEight() {
        for (int limit = 1; limit <= 8; limit++) {
            BundlePair x = new BundlePair();
            for (int i = 0; i < 8; i++) {
                join(x, i, 1);
            }
            x.limit(1, limit);
            x.tick(40);
            for (int i = 0; i < 8; i++) {
                dueLook("LIMIT " + limit, x, 0, i, 7, 1);
                dueLook("LIMIT " + limit, x, 1, i, 7, i < limit ? 1 : 0);
                dueLook("LIMIT " + limit, x, 1, i, 5, i < limit ? 4 : 0);
                dueCable("LIMIT " + limit, x, i, 4, i < limit ? 1 : 0);
            }
        }
    }

    /** Promise 4: "one of these is not as told": KEY and PRIORITY 0 to 65535. */
    private static void portLeastAndGreatest() {
        BundlePair x = new BundlePair();
        for (int end = 0; end < 2; end++) {
            for (int port = 0; port <= 7; port += 7) {
                x.port(end, port, 65535, 0);
                dueLook("KEY 65535", x, end, port, 0, 65535);
                dueLook("PRIORITY 0", x, end, port, 1, 0);
                x.port(end, port, 0, 65535);
                dueLook("KEY 0", x, end, port, 0, 0);
                dueLook("PRIORITY 65535", x, end, port, 1, 65535);
            }
        }
        dueLook("another PORT", x, 0, 1, 1, 100);
        dueLook("another PORT", x, 1, 6, 1, 100);
    }

    /** Term 1: KEY "0 at first: it is bundled with none". */
    private static void portKeyZero() {
        for (int end = 0; end < 2; end++) {
            BundlePair x = new BundlePair();
            join(x, 0, 1);
            x.port(end, 0, 0, 100);
            x.tick(40);
            dueLook("KEY 0", x, end, 0, 3, 2);
            dueLook("KEY 0", x, end, 0, 2, end == 0 ? 1 : 0);
            dueStages("KEY 0", x, 0, 0, 0);
            for (int at = 0; at < 2; at++) {
                dueLook("KEY 0", x, at, 0, 6, -1);
                dueLook("KEY 0", x, at, 0, 7, 0);
            }
        }
    }

    /** Term 2 (c): "its KEY is above 0": the least and the greatest that is. */
    private static void portKeyOne() {
        int[][] keys = {{1, 1}, {1, 65535}, {65535, 1}, {65535, 65535}};
        for (int[] pair : keys) {
            BundlePair x = new BundlePair();
            join(x, 0, 1);
            x.port(0, 0, pair[0], 0);
            x.port(1, 0, pair[1], 65535);
            x.tick(7);
            String when = "KEYS " + pair[0] + " and " + pair[1];
            dueStages(when, x, 0, 4, 4);
            dueLook(when, x, 0, 0, 10, pair[1]);
            dueLook(when, x, 1, 0, 10, pair[0]);
            dueLook(when, x, 0, 0, 11, 65535);
            dueLook(when, x, 1, 0, 11, 0);
        }
    }

    /** Promise 5: the least and the greatest END and PORT, and no other one. */
    private static void mannerLeastAndGreatest() {
        BundlePair x = new BundlePair();
        x.manner(0, 0, true, false);
        x.manner(1, 7, false, true);
        for (int i = 0; i < 8; i++) {
            dueLook("manner(0, 0)", x, 0, i, 2, i == 0 ? 1 : 0);
            dueLook("manner(1, 7)", x, 1, i, 2, i == 7 ? 2 : 0);
        }
    }

    /** Promise 6: the least and the greatest CABLE, PORT and DELAY. */
    private static void plugLeastAndGreatest() {
        BundlePair x = new BundlePair();
        x.plug(0, 0, 7, 1);
        x.plug(7, 7, 0, 8);
        int[] least = {0, 7, 1, 1};
        int[] greatest = {7, 0, 8, 1};
        for (int what = 0; what < 4; what++) {
            dueCable("plug(0, 0, 7, 1)", x, 0, what, least[what]);
            dueCable("plug(7, 7, 0, 8)", x, 7, what, greatest[what]);
        }
    }

    /** Promise 6: eight CABLES find room; there is none for one more place. */
    private static void plugAllPorts() {
        BundlePair x = new BundlePair();
        for (int i = 0; i < 8; i++) {
            x.plug(i, i, 7 - i, 1 + i);
        }
        for (int i = 0; i < 8; i++) {
            dueLook("all PORTS", x, 0, i, 8, i);
            dueLook("all PORTS", x, 1, i, 8, 7 - i);
            dueLook("all PORTS", x, 1, i, 3, 1);
        }
        Checks.dueBadState("plug(0, 1, 7, 1)", () -> x.plug(0, 1, 7, 1));
        Checks.dueBadState("plug(0, 0, 6, 1)", () -> x.plug(0, 0, 6, 1));
    }

    /** Promise 6: "another CABLE is in one of these PORTS", not this one; it is "pulled ahead". */
    private static void plugSamePlace() {
        BundlePair x = joined(1);
        x.give(0, 0, 0, 1);
        x.give(1, 0, 0, 1);
        x.plug(0, 0, 0, 1);
        dueCount("PLUGGED anew", x, 9, 2);
        dueStages("PLUGGED anew", x, 0, 0, 0);
        for (int end = 0; end < 2; end++) {
            dueLook("PLUGGED anew", x, end, 0, 3, 1);
            dueLook("PLUGGED anew", x, end, 0, 4, 3);
            dueLook("PLUGGED anew", x, end, 0, 13, 0);
        }
        Checks.due("FRAMES are lost: tick(2)", x.tick(2), 0);
        dueCount("FRAMES are lost", x, 8, 0);
    }

    /** Promise 6: one side stays, the other one goes to another PORT. */
    private static void plugHalfMoved() {
        BundlePair x = joined(1);
        x.plug(0, 0, 7, 1);
        dueLook("moved", x, 1, 0, 8, -1);
        dueLook("moved", x, 1, 0, 3, 0);
        dueLook("moved", x, 1, 7, 8, 0);
        dueLook("moved", x, 0, 0, 8, 0);
        dueStages("moved", x, 0, 0, 0);
        x.plug(0, 6, 7, 1);
        dueLook("moved", x, 0, 0, 8, -1);
        dueLook("moved", x, 0, 6, 8, 0);
        dueLook("moved", x, 1, 7, 8, 0);
    }

    /** Promise 6: a PORT whose CABLE was pulled is free for another one. */
    private static void plugWherePulled() {
        BundlePair x = new BundlePair();
        x.plug(0, 3, 4, 1);
        Checks.dueBadState("plug(1, 3, 4, 2)", () -> x.plug(1, 3, 4, 2));
        x.pull(0);
        x.plug(1, 3, 4, 2);
        dueLook("plugged", x, 0, 3, 8, 1);
        dueLook("plugged", x, 1, 4, 8, 1);
        dueCable("pulled", x, 0, 0, -1);
    }

    /** Promise 6: "and is UP", though it was cut. */
    private static void plugCutIsUp() {
        BundlePair x = new BundlePair();
        x.plug(0, 3, 4, 1);
        x.light(0, false);
        x.plug(0, 3, 4, 8);
        dueCable("PLUGGED anew", x, 0, 3, 1);
        dueCable("PLUGGED anew", x, 0, 2, 8);
        Checks.dueBadState("light(0, true)", () -> x.light(0, true));
    }

    /** Promise 7: "PLUGGED no more": what was on it comes nowhere, even if it is PLUGGED again. */
    private static void pullLosesAll() {
        BundlePair x = new BundlePair();
        join(x, 0, 8);
        x.tick(8);
        dueCable("8 NOTES on it", x, 0, 7, 8);
        x.pull(0);
        dueCable("pulled", x, 0, 7, 0);
        dueCount("NOTES are no FRAMES", x, 9, 0);
        x.plug(0, 0, 0, 8);
        x.manner(0, 0, false, false);
        x.tick(20);
        dueLook("NOTES are lost", x, 1, 0, 15, 0);
    }

    /** Promise 7: a cut CABLE is PLUGGED; behind pull() it is not. */
    private static void pullCut() {
        BundlePair x = new BundlePair();
        x.plug(7, 7, 7, 1);
        x.light(7, false);
        x.pull(7);
        dueLook("pulled", x, 0, 7, 8, -1);
        dueLook("pulled", x, 1, 7, 3, 0);
        Checks.dueBadState("pull(7) again", () -> x.pull(7));
        Checks.dueBadState("light(7, true)", () -> x.light(7, true));
    }

    /** Promise 8: "or is so already": each way once, and no more. */
    private static void lightBothWays() {
        BundlePair x = new BundlePair();
        x.plug(0, 0, 0, 1);
        Checks.dueBadState("light(0, true) behind plug", () -> x.light(0, true));
        for (int i = 0; i < 3; i++) {
            x.light(0, false);
            dueCable("cut", x, 0, 3, 0);
            Checks.dueBadState("light(0, false) again", () -> x.light(0, false));
            x.light(0, true);
            dueCable("UP", x, 0, 3, 1);
            Checks.dueBadState("light(0, true) again", () -> x.light(0, true));
        }
    }

    /** Promise 9: "0 to 100": with 0 none is LOST. */
    private static void loseNone() {
        BundlePair x = new BundlePair();
        join(x, 0, 1);
        x.lose(0, 0, 0);
        x.tick(1);
        dueCable("lose(0, 0, 0)", x, 0, 7, 1);
        dueCount("lose(0, 0, 0)", x, 1, 1);
    }

    /** Promise 9: "0 to 100": 100 are LOST, the next one is not. */
    private static void loseHundred() {
        BundlePair x = new BundlePair();
        join(x, 0, 1);
        x.lose(0, 0, 100);
        x.tick(99);
        dueLook("99 NOTES", x, 0, 0, 14, 99);
        dueCount("99 NOTES", x, 1, 0);
        x.tick(1);
        dueCable("100 NOTES", x, 0, 7, 0);
        dueCount("100 NOTES", x, 1, 0);
        x.tick(1);
        dueCable("101 NOTES", x, 0, 7, 1);
        dueCount("101 NOTES", x, 1, 1);
        dueLook("101 NOTES", x, 0, 0, 14, 101);
    }

    /** Promise 9: "in place of those told ahead": more, fewer, none. */
    private static void loseInPlace() {
        int[][] told = {{3, 5, 5}, {5, 3, 3}, {5, 0, 0}, {0, 2, 2}};
        for (int[] row : told) {
            BundlePair x = new BundlePair();
            join(x, 0, 8);
            x.lose(0, 0, row[0]);
            x.lose(0, 0, row[1]);
            x.tick(8);
            dueCable("lose " + row[0] + ", then " + row[1], x, 0, 7, 8 - row[2]);
        }
    }

    /** Promise 9: "that an END would put on a CABLE": not the other END's, not another CABLE's. */
    private static void loseByEndAndCable() {
        BundlePair x = new BundlePair();
        join(x, 0, 8);
        join(x, 1, 8);
        x.manner(1, 0, true, false);
        x.manner(1, 1, true, false);
        x.lose(0, 0, 1);
        x.lose(1, 1, 2);
        x.tick(8);
        dueCable("one LOST", x, 0, 7, 7);
        dueCable("none LOST", x, 0, 8, 8);
        dueCable("none LOST", x, 1, 7, 8);
        dueCable("two LOST", x, 1, 8, 6);
    }

    /** Promise 9 names no CABLE that must be PLUGGED: what is told stays until NOTES are put. */
    private static void loseAheadOfPlug() {
        BundlePair x = new BundlePair();
        x.lose(0, 0, 2);
        x.tick(3);
        dueCount("no NOTE, none LOST", x, 1, 3);
        join(x, 0, 8);
        x.tick(8);
        dueCable("two LOST", x, 0, 7, 6);
    }

    /** Promise 10: "1 to 1000": the least. */
    private static void tickOne() {
        BundlePair x = joined(1);
        x.give(0, 0, 0, 1);
        Checks.due("tick(1)", x.tick(1), 0);
        dueCount("tick(1)", x, 0, 8);
        Checks.due("tick(1)", x.tick(1), 1);
        Checks.due("tick(1)", x.tick(1), 0);
    }

    /** Promise 10: "1 to 1000": the greatest, which is a thousand times the least. */
    private static void tickThousand() {
        BundlePair x = joined(1);
        BundlePair y = joined(1);
        x.give(0, 0, 0, 1);
        y.give(0, 0, 0, 1);
        int came = 0;
        for (int i = 0; i < 250; i++) {
            came += y.tick(1);
        }
        came += y.tick(750);
        Checks.due("tick(1000)", x.tick(1000), came);
        dueCount("tick(1000)", x, 0, 1007);
        for (int what = 0; what < 16; what++) {
            dueLook("tick(1000)", x, 0, 0, what, y.look(0, 0, what));
            dueLook("tick(1000)", x, 1, 0, what, y.look(1, 0, what));
        }
        for (int what = 0; what <= 12; what++) {
            dueCount("tick(1000)", x, what, y.count(what));
        }
    }

    /** Promise 10: "how many FRAMES came to the ENDS", both, in all TICKS of this call alone. */
    private static void tickCountsBothEnds() {
        BundlePair x = joined(2);
        x.give(0, 0, 0, 1);
        x.give(1, 0, 0, 1);
        x.tick(1);
        x.give(1, 0, 1, 1);
        Checks.due("tick(2)", x.tick(2), 3);
        Checks.due("tick(2)", x.tick(2), 0);
        dueCount("came to END 0", x, 6, 2);
        dueCount("came to END 1", x, 7, 1);
    }

    /** Promise 11, Term 2: "conversation is not 0 to 255", "c modulo n", for each n. */
    private static void giveConversations() {
        for (int n = 1; n <= 8; n++) {
            BundlePair x = joined(n);
            for (int c : new int[] {0, 1, 7, 8, 127, 128, 254, 255}) {
                Checks.due(n + " PORTS: give(0, 0, " + c + ", 0)", x.give(0, 0, c, 0), c % n);
                Checks.due(n + " PORTS: give(1, 0, " + c + ", 0)", x.give(1, 0, c, 0), c % n);
            }
        }
    }

    /** Promise 11: "NONE, if the END has no such BUNDLE": its number is that of its least PORT. */
    private static void giveNoSuchBundle() {
        BundlePair x = joined(3);
        for (int bundle : new int[] {MIN, -2, -1, 1, 2, 3, 7, 8, MAX}) {
            Checks.due("give(0, " + bundle + ", 0, 0)", x.give(0, bundle, 0, 0), -1);
        }
        for (int i = 0; i < 3; i++) {
            dueCable("no FRAME", x, i, 5, 0);
        }
    }

    /** Promise 11: "or none of its PORTS is in STAGE 4": the TICK ahead, and the very one. */
    private static void giveNoneInStageFour() {
        BundlePair x = new BundlePair();
        join(x, 0, 1);
        x.tick(6);
        dueStages("the 6th TICK", x, 0, 3, 3);
        dueLook("the 6th TICK", x, 0, 0, 6, 0);
        Checks.due("give in STAGE 3", x.give(0, 0, 0, 0), -1);
        x.tick(1);
        Checks.due("give in STAGE 4", x.give(0, 0, 0, 0), 0);
        x.light(0, false);
        Checks.due("give, its only CABLE is cut", x.give(0, 0, 0, 0), -1);
    }

    /** Promise 11: "or 200 FRAMES are on the CABLE in that direction". */
    private static void giveTwoHundred() {
        BundlePair x = joined(2);
        for (int i = 0; i < 200; i++) {
            Checks.due("FRAME " + i, x.give(0, 0, 0, i), 0);
        }
        Checks.due("200 are on it", x.give(0, 0, 0, 200), -1);
        Checks.due("200 are on it", x.give(0, 0, 2, 200), -1);
        Checks.due("the other CABLE", x.give(0, 0, 1, 200), 1);
        Checks.due("the other direction", x.give(1, 0, 0, 200), 0);
        dueCable("200 are on it", x, 0, 5, 200);
        x.tick(1);
        Checks.due("200 are on it yet", x.give(0, 0, 0, 200), -1);
        Checks.due("tick(1)", x.tick(1), 202);
        Checks.due("none is on it", x.give(0, 0, 0, 200), 0);
        dueCable("one is on it", x, 0, 5, 1);
        dueCount("none was refused for good", x, 8, 0);
        dueCount("none was refused for good", x, 9, 0);
    }

    /** Promise 11: 199 more behind 150 that came: their order holds, and 200 is the limit again. */
    private static void giveWraps() {
        BundlePair x = joined(1);
        for (int i = 0; i < 150; i++) {
            x.give(0, 0, i, i);
        }
        x.tick(1);
        x.give(0, 0, 1, 1000);
        Checks.due("tick(1)", x.tick(1), 150);
        for (int i = 1; i < 200; i++) {
            x.give(0, 0, 1, 1000 + i);
        }
        Checks.due("200 are on it", x.give(0, 0, 1, 0), -1);
        Checks.due("tick(1), given a TICK ahead", x.tick(1), 1);
        Checks.due("the first", x.came(1, 0, 2), 1000);
        Checks.due("tick(1), the others", x.tick(1), 199);
        for (int i = 0; i < 50; i++) {
            Checks.due("came(1, " + i + ", 2)", x.came(1, i, 2), 1199 - i);
        }
    }

    /** Promise 12: "there is none such": none came yet, or one alone. */
    private static void cameNone() {
        BundlePair x = joined(1);
        for (int end = 0; end < 2; end++) {
            int at = end;
            Checks.dueMissing("none came to END " + at, () -> x.came(at, 0, 0));
        }
        x.give(0, 0, 9, 8);
        x.tick(1);
        Checks.dueMissing("it is on its way", () -> x.came(1, 0, 0));
        x.tick(1);
        Checks.due("one came", x.came(1, 0, 1), 9);
        Checks.dueMissing("no second one", () -> x.came(1, 1, 1));
        Checks.dueMissing("none came to the giving END", () -> x.came(0, 0, 1));
    }

    /** Promise 12: "the latest 50 are kept": 49, 50 and 51 that came. */
    private static void cameFifty() {
        for (int n = 49; n <= 51; n++) {
            BundlePair x = joined(1);
            for (int i = 0; i < n; i++) {
                x.give(0, 0, 0, i);
            }
            Checks.due("tick(2)", x.tick(2), n);
            int kept = Math.min(n, 50);
            Checks.due(n + " came: the latest", x.came(1, 0, 2), n - 1);
            Checks.due(n + " came: the last that is kept", x.came(1, kept - 1, 2), n - kept);
            Checks.dueMissing(n + " came: the next one", () -> x.came(1, kept, 2));
            dueCount(n + " came", x, 7, n);
        }
    }

    /** Promise 12: "the latest 50", when two times 50 and more came, some TICKS apart. */
    private static void cameWraps() {
        BundlePair x = joined(1);
        for (int i = 0; i < 120; i++) {
            x.give(1, 0, i, i);
            if (i % 30 == 29) {
                x.tick(1);
            }
        }
        x.tick(1);
        for (int i = 0; i < 50; i++) {
            Checks.due("came(0, " + i + ", 2)", x.came(0, i, 2), 119 - i);
            Checks.due("came(0, " + i + ", 3)", x.came(0, i, 3), i < 30 ? 11 : 10);
        }
        Checks.dueMissing("came(0, 50, 2)", () -> x.came(0, 50, 2));
    }

    /** Promise 12: "NONE for another what". */
    private static void cameAnotherWhat() {
        BundlePair x = joined(1);
        x.give(0, 0, 0, 1);
        x.tick(2);
        for (int what : new int[] {MIN, -1, 4, 5, MAX}) {
            Checks.due("came(1, 0, " + what + ")", x.came(1, 0, what), -1);
        }
    }

    /** Promise 11: "a value" has no range: the least and the greatest come as they were given. */
    private static void cameValues() {
        BundlePair x = joined(1);
        int[] values = {MIN, -1, 0, 1, MAX};
        for (int value : values) {
            Checks.due("give " + value, x.give(0, 0, 255, value), 0);
        }
        x.tick(2);
        for (int i = 0; i < values.length; i++) {
            Checks.due("came(1, " + i + ", 2)", x.came(1, i, 2), values[values.length - 1 - i]);
            Checks.due("came(1, " + i + ", 1)", x.came(1, i, 1), 255);
        }
    }

    /** Promise 13: "NONE: it FIT none, there was no TICK". */
    private static void lookBundleWithoutTick() {
        BundlePair x = new BundlePair();
        join(x, 0, 1);
        dueLook("no TICK", x, 0, 0, 6, -1);
        dueLook("no TICK", x, 0, 0, 7, 0);
        x.tick(1);
        dueLook("it FIT none", x, 1, 0, 6, -1);
        dueLook("it FIT none", x, 1, 0, 7, 0);
        x.tick(1);
        dueLook("it FIT", x, 1, 0, 6, 0);
        dueLook("it FIT", x, 1, 0, 7, 1);
    }

    /** Promise 13: "or it is not LIT", "0 if it is not LIT": at once, without a TICK. */
    private static void lookBundleNotLit() {
        BundlePair x = joined(2);
        x.light(0, false);
        x.pull(1);
        for (int i = 0; i < 2; i++) {
            for (int end = 0; end < 2; end++) {
                dueLook("not LIT", x, end, i, 6, -1);
                dueLook("not LIT", x, end, i, 7, 0);
            }
        }
        x.tick(1);
        x.light(0, true);
        dueLook("LIT, but as of the latest (c)", x, 0, 0, 6, -1);
        dueLook("LIT, but as of the latest (c)", x, 0, 0, 7, 0);
    }

    /** Promise 13: "as of the latest TICK's (c)": LIT again without a TICK, that one counts yet. */
    private static void lookBundleLitAgain() {
        BundlePair x = joined(1);
        x.light(0, false);
        x.light(0, true);
        dueLook("LIT again", x, 0, 0, 6, 0);
        dueLook("LIT again", x, 0, 0, 7, 1);
        Checks.due("none is in STAGE 4: give", x.give(0, 0, 0, 0), -1);
        x.tick(1);
        dueLook("it FIT none", x, 0, 0, 6, -1);
        dueLook("it FIT none", x, 0, 0, 7, 0);
    }

    /** Promise 13: "NONE for another what". */
    private static void lookAnotherWhat() {
        BundlePair x = joined(1);
        for (int what : new int[] {MIN, -1, 16, 17, MAX}) {
            dueLook("another what", x, 0, 0, what, -1);
            dueLook("another what", x, 1, 7, what, -1);
        }
    }

    /** Promise 13: 14 and 15 count all NOTES of the PORT, whichever CABLE was in it. */
    private static void lookNotesStay() {
        BundlePair x = joined(1);
        int put = x.look(0, 0, 14);
        int came = x.look(1, 0, 15);
        x.pull(0);
        dueLook("pulled", x, 0, 0, 14, put);
        dueLook("pulled", x, 1, 0, 15, came);
        x.plug(5, 0, 0, 1);
        x.tick(2);
        dueLook("another CABLE", x, 0, 0, 14, put + 2);
        dueLook("another CABLE", x, 1, 0, 15, came + 1);
    }

    /** Promise 14: "0 to 2: NONE if it is not PLUGGED", the others 0. */
    private static void cableNotPlugged() {
        BundlePair x = joined(1);
        x.pull(0);
        for (int i = 0; i < 8; i++) {
            for (int what = 0; what <= 8; what++) {
                dueCable("not PLUGGED", x, i, what, what < 3 ? -1 : 0);
            }
        }
    }

    /** Promise 14: a CABLE that is cut is PLUGGED yet. */
    private static void cableCut() {
        BundlePair x = new BundlePair();
        join(x, 6, 8);
        x.tick(5);
        x.light(6, false);
        int[] facts = {6, 6, 8, 0, 0, 0, 0, 0, 0};
        for (int what = 0; what < facts.length; what++) {
            dueCable("cut", x, 6, what, facts[what]);
        }
    }

    /** Term 3: "MEANT are as many as the lesser LIMIT has". */
    private static void cableMeantByLimits() {
        int[][] limits = {{1, 8}, {8, 1}, {3, 4}, {4, 3}, {7, 7}, {8, 8}};
        for (int[] pair : limits) {
            BundlePair x = new BundlePair();
            for (int i = 0; i < 8; i++) {
                join(x, i, 1);
            }
            x.limit(0, pair[0]);
            x.limit(1, pair[1]);
            for (int i = 0; i < 8; i++) {
                dueCable("LIMITS " + pair[0] + ", " + pair[1], x, i, 4,
                    i < Math.min(pair[0], pair[1]) ? 1 : 0);
            }
        }
    }

    /** Term 3: "by PRIORITY, then number, of their PORTS of the STRONGER END", not the CABLE's. */
    private static void cableMeantByStronger() {
        BundlePair x = new BundlePair();
        for (int i = 0; i < 3; i++) {
            x.port(0, i, 5, 100);
            x.port(1, i, 7, 100);
            x.manner(1, i, true, false);
        }
        x.plug(0, 2, 0, 1);
        x.plug(1, 0, 1, 1);
        x.plug(2, 1, 2, 1);
        x.limit(1, 1);
        dueMeant("the least number at END 0", x, 1);
        x.system(0, 21);
        dueMeant("the least number at END 1", x, 0);
        x.port(1, 2, 7, 99);
        dueMeant("the least PRIORITY at END 1", x, 2);
        x.port(0, 0, 5, 0);
        dueMeant("END 0's PRIORITIES do not count", x, 2);
        x.port(1, 2, 8, 99);
        dueCable("a GROUP of its own", x, 2, 4, 1);
        dueCable("the least number of the others", x, 0, 4, 1);
        dueCable("the least number of the others", x, 1, 4, 0);
    }

    private static void dueMeant(String when, BundlePair x, int meant) {
        for (int i = 0; i < 3; i++) {
            dueCable(when, x, i, 4, i == meant ? 1 : 0);
        }
    }

    /** Promise 14: "NONE for another what". */
    private static void cableAnotherWhat() {
        BundlePair x = joined(1);
        for (int what : new int[] {MIN, -1, 9, 10, MAX}) {
            dueCable("another what", x, 0, what, -1);
            dueCable("another what", x, 7, what, -1);
        }
    }

    /** Promise 15: "the highest first": the greatest of each, and that of a PARTNER. */
    private static void noteBytes() {
        BundlePair x = new BundlePair();
        x.system(1, 1000000);
        x.port(1, 7, 65535, 256);
        x.port(0, 0, 255, 65280);
        x.manner(1, 7, true, true);
        x.plug(3, 0, 7, 1);
        x.tick(2);
        int[] greatest = {0, 15, 66, 64, 255, 255, 1, 0, 0, 7, 7};
        int[] least = {0, 0, 0, 10, 0, 255, 255, 0, 0, 0, 4};
        for (int i = 0; i < 11; i++) {
            Checks.due("note(1, 7, " + i + ")", x.note(1, 7, i), greatest[i]);
            Checks.due("note(0, 0, " + (11 + i) + ")", x.note(0, 0, 11 + i), greatest[i]);
            Checks.due("note(0, 0, " + i + ")", x.note(0, 0, i), least[i]);
            Checks.due("note(1, 7, " + (11 + i) + ")", x.note(1, 7, 11 + i), 0);
        }
    }

    /** Promise 15: "NONE if there is none such, or no such END or PORT". */
    private static void noteNone() {
        BundlePair x = joined(8);
        for (int i : new int[] {MIN, -1, 22, 23, MAX}) {
            Checks.due("note(0, 0, " + i + ")", x.note(0, 0, i), -1);
        }
        for (int port : new int[] {MIN, -1, 8, MAX}) {
            Checks.due("note(0, " + port + ", 0)", x.note(0, port, 0), -1);
        }
        for (int end : new int[] {MIN, -1, 2, MAX}) {
            Checks.due("note(" + end + ", 0, 0)", x.note(end, 0, 0), -1);
        }
        Checks.due("note(0, 0, 0), the first", x.note(0, 0, 0), 0);
        Checks.due("note(0, 7, 21), the last", x.note(0, 7, 21), 28);
        Checks.due("note(1, 7, 21), the last", x.note(1, 7, 21), 29);
    }

    /** Promise 16: "NONE for another what". */
    private static void countAnotherWhat() {
        BundlePair x = joined(1);
        for (int what : new int[] {MIN, -1, 13, 14, MAX}) {
            dueCount("another what", x, what, -1);
        }
        for (int what = 10; what <= 12; what++) {
            dueCount("always 0", x, what, 0);
        }
    }

    /** Promise 16: "(always 0)": a FRAME overtakes only where 12 does not count it. */
    private static void countAlwaysZero() {
        BundlePair x = new BundlePair();
        join(x, 0, 8);
        join(x, 1, 1);
        x.tick(60);
        for (int i = 0; i < 20; i++) {
            x.give(0, 0, i % 3, i);
            x.give(1, 0, i % 3, i);
            x.tick(1);
        }
        Checks.due("the latest came by the fast CABLE", x.came(1, 1, 1), 1);
        x.limit(0, 1);
        x.tick(2);
        for (int c = 0; c < 3; c++) {
            x.give(0, 0, c, c);
            x.give(1, 0, c, c);
        }
        x.tick(20);
        for (int what = 10; what <= 12; what++) {
            dueCount("always 0", x, what, 0);
        }
    }

    /** Promise 16: 10 "TICKS behind which QUIET was 300 or more": all is settled long ahead of it. */
    private static void countOfALongQuiet() {
        BundlePair x = joined(3);
        x.port(0, 2, 0, 100);
        x.limit(1, 1);
        x.tick(299);
        dueCount("299 TICKS", x, 1, 299);
        for (int i = 0; i < 3; i++) {
            dueCount("QUIET is " + (299 + i), x, 10, 0);
            x.tick(1);
        }
        dueStages("MEANT", x, 0, 4, 4);
        dueStages("not MEANT", x, 1, 2, 0);
        dueStages("KEY 0", x, 2, 0, 0);
        x.tick(1000);
        dueCount("a long QUIET", x, 1, 1302);
        dueCount("a long QUIET", x, 10, 0);
    }

    /** Term 3: QUIET is 0 behind each of eight calls, though they tell what is so already. */
    private static void countQuiet() {
        BundlePair x = joined(2);
        for (int i = 0; i < 9; i++) {
            x.tick(2);
            dueCount("behind TICKS", x, 1, i == 0 ? 9 : 2);
            switch (i) {
                case 0 -> x.system(0, 10);
                case 1 -> x.limit(0, 8);
                case 2 -> x.port(0, 0, 5, 100);
                case 3 -> x.manner(0, 0, true, false);
                case 4 -> x.lose(0, 7, 0);
                case 5 -> x.light(1, false);
                case 6 -> x.light(1, true);
                case 7 -> x.pull(1);
                default -> x.plug(1, 1, 1, 1);
            }
            dueCount("behind call " + i, x, 1, 0);
        }
        x.tick(3);
        x.give(0, 0, 0, 0);
        x.cable(0, 0);
        x.note(0, 0, 0);
        x.look(0, 0, 0);
        dueCount("other calls", x, 1, 3);
    }

    /** Promise 16: 9 "those that were on a CABLE as it was cut, pulled or PLUGGED anew". */
    private static void countCutOff() {
        BundlePair x = joined(4);
        for (int c = 0; c < 4; c++) {
            x.give(0, 0, c, 0);
            x.give(1, 0, c, 0);
        }
        x.light(0, false);
        dueCount("cut", x, 9, 2);
        x.pull(0);
        dueCount("pulled when it was empty", x, 9, 2);
        x.pull(1);
        dueCount("pulled", x, 9, 4);
        x.plug(2, 7, 7, 1);
        dueCount("PLUGGED anew", x, 9, 6);
        Checks.due("tick(2)", x.tick(2), 2);
        dueCount("what came is not counted", x, 9, 6);
    }
}

/** Each promise by hand: what it does with ordinary inputs, and some edges and wrong inputs. */
public final class PromiseTest extends Scenes {
    private PromiseTest() {
    }

    public static void main(String[] args) {
        newObject();
        system();
        systemMakesStronger();
        limit();
        limitChooses();
        limitChoosesCrossed();
        port();
        portKeyBreaks();
        portChangesNeedKnowing();
        manner();
        mannerQuick();
        plug();
        plugAnew();
        pull();
        light();
        lose();
        loseCounts();
        tickArguments();
        tickTimers();
        tickPauses();
        tickDelays();
        tickDrops();
        tickBundles();
        give();
        giveFull();
        came();
        cameOrder();
        look();
        cable();
        cableMeant();
        note();
        count();
        countOtherConversations();
        countOtherGivers();
        countOtherBundles();
        Checks.end();
    }

    private static void newObject() {
        BundlePair x = new BundlePair();
        int[] portFacts = {0, 100, 0, 0, 0, 0, -1, 0, -1, 0, 0, 0, 0, 0, 0, 0};
        int[] cableFacts = {-1, -1, -1, 0, 0, 0, 0, 0, 0};
        int[] counts = {0, 0, 10, 20, 8, 8, 0, 0, 0, 0, 0, 0, 0};
        for (int what = 0; what < portFacts.length; what++) {
            for (int port = 0; port < 8; port++) {
                dueLook("new", x, 0, port, what, portFacts[what]);
                dueLook("new", x, 1, port, what, portFacts[what]);
            }
        }
        x = new BundlePair();
        for (int what = 0; what < cableFacts.length; what++) {
            for (int cable = 0; cable < 8; cable++) {
                dueCable("new", x, cable, what, cableFacts[what]);
            }
        }
        for (int what = 0; what < counts.length; what++) {
            dueCount("new", x, what, counts[what]);
        }
        Checks.due("NONE", BundlePair.NONE, -1);
    }

    private static void system() {
        BundlePair x = new BundlePair();
        x.tick(3);
        Checks.dueIllegal("system(2, 5)", () -> x.system(2, 5));
        Checks.dueIllegal("system(-1, 5)", () -> x.system(-1, 5));
        Checks.dueIllegal("system(MIN, 5)", () -> x.system(MIN, 5));
        Checks.dueIllegal("system(0, 0)", () -> x.system(0, 0));
        Checks.dueIllegal("system(1, 1000001)", () -> x.system(1, 1000001));
        Checks.dueIllegal("system(2, 20): the first exception", () -> x.system(2, 20));
        Checks.dueBadState("system(0, 20)", () -> x.system(0, 20));
        Checks.dueBadState("system(1, 10)", () -> x.system(1, 10));
        dueCount("system threw", x, 1, 3);
        dueCount("system threw", x, 2, 10);
        Checks.due("system(0, 10), its own", x.system(0, 10), 10);
        dueCount("system", x, 1, 0);
        Checks.due("system(0, 1)", x.system(0, 1), 10);
        Checks.due("system(1, 1000000)", x.system(1, 1000000), 20);
        Checks.due("system(1, 2)", x.system(1, 2), 1000000);
        dueCount("system", x, 2, 1);
        dueCount("system", x, 3, 2);
    }

    /** END 0 would choose CABLE 0, END 1 CABLE 1. */
    private static void systemMakesStronger() {
        BundlePair x = new BundlePair();
        join(x, 0, 1);
        join(x, 1, 1);
        x.port(0, 1, 5, 200);
        x.port(1, 1, 7, 50);
        x.limit(0, 1);
        x.tick(40);
        dueCable("END 0 is the STRONGER", x, 0, 4, 1);
        dueCable("END 0 is the STRONGER", x, 1, 4, 0);
        dueStages("END 0 is the STRONGER", x, 0, 4, 4);
        dueStages("END 0 is the STRONGER", x, 1, 0, 2);
        x.system(0, 21);
        dueCable("END 1 is the STRONGER", x, 0, 4, 0);
        dueCable("END 1 is the STRONGER", x, 1, 4, 1);
        x.tick(1);
        dueLook("END 0 chooses by PARTNER", x, 0, 0, 7, 0);
        dueLook("END 0 chooses by PARTNER", x, 0, 1, 7, 1);
        dueLook("END 1 knows the old SYSTEM yet", x, 1, 0, 5, 4);
        x.tick(1);
        dueLook("another PARTNER's SYSTEM", x, 1, 0, 9, 21);
        dueLook("another PARTNER's SYSTEM", x, 1, 0, 5, 0);
        x.tick(40);
        dueStages("END 1 is the STRONGER", x, 0, 0, 2);
        dueStages("END 1 is the STRONGER", x, 1, 4, 4);
    }

    private static void limit() {
        BundlePair x = new BundlePair();
        x.tick(2);
        Checks.dueIllegal("limit(-1, 4)", () -> x.limit(-1, 4));
        Checks.dueIllegal("limit(2, 4)", () -> x.limit(2, 4));
        Checks.dueIllegal("limit(0, 0)", () -> x.limit(0, 0));
        Checks.dueIllegal("limit(0, 9)", () -> x.limit(0, 9));
        Checks.dueIllegal("limit(0, MIN)", () -> x.limit(0, MIN));
        dueCount("limit threw", x, 4, 8);
        dueCount("limit threw", x, 1, 2);
        Checks.due("limit(0, 1)", x.limit(0, 1), 8);
        dueCount("limit", x, 1, 0);
        Checks.due("limit(0, 8)", x.limit(0, 8), 1);
        Checks.due("limit(1, 3)", x.limit(1, 3), 8);
        dueCount("limit", x, 4, 8);
        dueCount("limit", x, 5, 3);
    }

    private static void limitChooses() {
        BundlePair x = joined(4);
        x.port(0, 2, 5, 99);
        x.limit(1, 2);
        x.tick(1);
        dueLook("END 1 knows the old PRIORITY yet", x, 1, 0, 7, 1);
        dueLook("END 1 knows the old PRIORITY yet", x, 1, 1, 7, 1);
        dueLook("END 1 knows the old PRIORITY yet", x, 1, 2, 5, 0);
        x.tick(40);
        int[] atEnd0 = {4, 2, 4, 2};
        int[] atEnd1 = {4, 0, 4, 0};
        for (int i = 0; i < 4; i++) {
            dueStages("LIMIT 2", x, i, atEnd0[i], atEnd1[i]);
            dueLook("LIMIT 2", x, 0, i, 7, 1);
            dueLook("LIMIT 2", x, 1, i, 7, atEnd1[i] / 4);
            dueLook("LIMIT 2", x, 1, i, 6, 0);
            dueCable("LIMIT 2", x, i, 4, atEnd1[i] / 4);
        }
    }

    /** PORTS 0 and 1 of END 0 lead to 1 and 0 of END 1: the STRONGER END's numbers count. */
    private static void limitChoosesCrossed() {
        BundlePair x = new BundlePair();
        join(x, 0, 1);
        join(x, 1, 1);
        x.pull(1);
        x.plug(0, 0, 1, 1);
        x.plug(1, 1, 0, 1);
        x.limit(1, 1);
        x.tick(40);
        dueLook("crossed", x, 1, 0, 7, 0);
        dueLook("crossed", x, 1, 1, 7, 1);
        dueCable("crossed", x, 0, 4, 1);
        dueCable("crossed", x, 1, 4, 0);
        dueStages("crossed", x, 0, 4, 0);
        dueStages("crossed", x, 1, 2, 4);
    }

    private static void port() {
        BundlePair x = new BundlePair();
        x.tick(2);
        Checks.dueIllegal("port(2, 0, 1, 1)", () -> x.port(2, 0, 1, 1));
        Checks.dueIllegal("port(-1, 0, 1, 1)", () -> x.port(-1, 0, 1, 1));
        Checks.dueIllegal("port(0, 8, 1, 1)", () -> x.port(0, 8, 1, 1));
        Checks.dueIllegal("port(0, -1, 1, 1)", () -> x.port(0, -1, 1, 1));
        Checks.dueIllegal("port(0, 0, 65536, 1)", () -> x.port(0, 0, 65536, 1));
        Checks.dueIllegal("port(0, 0, -1, 1)", () -> x.port(0, 0, -1, 1));
        Checks.dueIllegal("port(0, 0, 1, 65536)", () -> x.port(0, 0, 1, 65536));
        Checks.dueIllegal("port(0, 0, 1, -1)", () -> x.port(0, 0, 1, -1));
        dueLook("port threw", x, 0, 0, 0, 0);
        dueLook("port threw", x, 0, 0, 1, 100);
        dueCount("port threw", x, 1, 2);
        x.port(0, 7, 65535, 0);
        dueCount("port", x, 1, 0);
        dueLook("port", x, 0, 7, 0, 65535);
        dueLook("port", x, 0, 7, 1, 0);
        dueLook("a KEY above 0", x, 0, 7, 2, 4);
        x.port(0, 7, 0, 65535);
        dueLook("port", x, 0, 7, 1, 65535);
        dueLook("KEY 0", x, 0, 7, 2, 0);
    }

    private static void portKeyBreaks() {
        BundlePair x = joined(1);
        x.port(0, 0, 6, 100);
        dueStages("another KEY, no TICK yet", x, 0, 4, 4);
        x.tick(1);
        dueStages("another KEY", x, 0, 0, 4);
        dueLook("another KEY FITS yet", x, 0, 0, 6, 0);
        dueLook("another KEY is CHOSEN yet", x, 0, 0, 7, 1);
        x.tick(1);
        dueStages("PARTNER's other KEY", x, 0, 1, 0);
        x.tick(20);
        dueStages("joined anew", x, 0, 4, 4);
        x.port(1, 0, 0, 100);
        x.tick(1);
        dueLook("KEY 0 FITS none", x, 1, 0, 6, -1);
        dueLook("KEY 0 is not CHOSEN", x, 1, 0, 7, 0);
        dueStages("KEY 0", x, 0, 4, 0);
        x.tick(1);
        dueLook("PARTNER's KEY 0", x, 0, 0, 6, -1);
        dueStages("PARTNER's KEY 0", x, 0, 0, 0);
    }

    /** Both PRIORITIES change at once, so both first NOTES tell an old PARTNER. */
    private static void portChangesNeedKnowing() {
        BundlePair x = joined(1);
        x.tick(13);
        x.port(0, 0, 5, 90);
        x.port(1, 0, 7, 91);
        x.tick(1);
        dueStages("NOTES are on their way", x, 0, 4, 4);
        x.tick(1);
        dueLook("NOTE of an old PRIORITY", x, 0, 0, 11, 91);
        dueLook("NOTE of an old PRIORITY, not IN STEP", x, 0, 0, 13, 4 + 16 + 32);
        dueLook("NOTE of an old PRIORITY, not IN STEP", x, 1, 0, 13, 1 + 4 + 16 + 32);
        dueStages("NOTE of an old PRIORITY", x, 0, 2, 2);
        x.tick(1);
        dueLook("NOTE of the new PRIORITY", x, 0, 0, 13, 4 + 8);
        dueStages("NOTE of the new PRIORITY", x, 0, 3, 3);
        x.tick(1);
        dueStages("NOTE of one that COLLECTS", x, 0, 4, 4);
    }

    private static void manner() {
        BundlePair x = new BundlePair();
        x.tick(2);
        Checks.dueIllegal("manner(2, 0)", () -> x.manner(2, 0, true, true));
        Checks.dueIllegal("manner(-1, 0)", () -> x.manner(-1, 0, true, true));
        Checks.dueIllegal("manner(0, 8)", () -> x.manner(0, 8, true, true));
        Checks.dueIllegal("manner(0, MAX)", () -> x.manner(0, MAX, true, true));
        dueCount("manner threw", x, 1, 2);
        x.manner(1, 7, true, false);
        dueCount("manner", x, 1, 0);
        dueLook("ACTIVE", x, 1, 7, 2, 1);
        x.manner(1, 7, false, true);
        dueLook("QUICK", x, 1, 7, 2, 2);
        x.manner(1, 7, true, true);
        dueLook("ACTIVE, QUICK", x, 1, 7, 2, 3);
        x.manner(1, 7, false, false);
        dueLook("neither", x, 1, 7, 2, 0);
    }

    private static void mannerQuick() {
        BundlePair x = new BundlePair();
        join(x, 0, 1);
        x.manner(1, 0, false, true);
        x.tick(2);
        dueLook("a QUICK PORT's TIMER", x, 1, 0, 4, 3);
        x.tick(1);
        dueLook("the other PORT's TIMER", x, 0, 0, 4, 90);
        x.tick(10);
        int before = x.look(0, 0, 14);
        x.tick(10);
        dueLook("PARTNER is QUICK", x, 0, 0, 14, before + 10);
        dueLook("PARTNER is QUICK", x, 1, 0, 4, 3);
        x.manner(1, 0, false, false);
        dueLook("QUICK no more, no NOTE yet", x, 1, 0, 4, 3);
        x.tick(1);
        dueLook("QUICK no more", x, 1, 0, 4, 90);
    }

    private static void plug() {
        BundlePair x = new BundlePair();
        x.tick(2);
        Checks.dueIllegal("plug(8, 0, 0, 1)", () -> x.plug(8, 0, 0, 1));
        Checks.dueIllegal("plug(-1, 0, 0, 1)", () -> x.plug(-1, 0, 0, 1));
        Checks.dueIllegal("plug(0, 8, 0, 1)", () -> x.plug(0, 8, 0, 1));
        Checks.dueIllegal("plug(0, -1, 0, 1)", () -> x.plug(0, -1, 0, 1));
        Checks.dueIllegal("plug(0, 0, 8, 1)", () -> x.plug(0, 0, 8, 1));
        Checks.dueIllegal("plug(0, 0, MIN, 1)", () -> x.plug(0, 0, MIN, 1));
        Checks.dueIllegal("plug(0, 0, 0, 0)", () -> x.plug(0, 0, 0, 0));
        Checks.dueIllegal("plug(0, 0, 0, 9)", () -> x.plug(0, 0, 0, 9));
        dueCable("plug threw", x, 0, 0, -1);
        dueCount("plug threw", x, 1, 2);
        x.plug(3, 2, 7, 8);
        dueCount("plug", x, 1, 0);
        int[] facts = {2, 7, 8, 1, 0};
        for (int what = 0; what < facts.length; what++) {
            dueCable("plug", x, 3, what, facts[what]);
        }
        dueLook("plug", x, 0, 2, 8, 3);
        dueLook("plug", x, 1, 7, 8, 3);
        dueLook("LIT", x, 1, 7, 3, 1);
        dueLook("LIT", x, 1, 7, 4, 3);
        Checks.dueBadState("plug(4, 2, 0, 1)", () -> x.plug(4, 2, 0, 1));
        Checks.dueBadState("plug(4, 0, 7, 1)", () -> x.plug(4, 0, 7, 1));
        Checks.dueIllegal("plug(4, 2, 0, 9): the first exception", () -> x.plug(4, 2, 0, 9));
        dueCable("plug threw", x, 4, 0, -1);
        x.light(3, false);
        Checks.dueBadState("plug(4, 2, 0, 1), a cut CABLE is in it", () -> x.plug(4, 2, 0, 1));
        x.plug(4, 7, 2, 1);
        dueLook("the same numbers the other way round", x, 0, 7, 8, 4);
    }

    private static void plugAnew() {
        BundlePair x = joined(2);
        x.give(0, 0, 0, 9);
        Checks.dueBadState("plug(0, 0, 1, 1)", () -> x.plug(0, 0, 1, 1));
        Checks.dueBadState("plug(0, 1, 0, 1)", () -> x.plug(0, 1, 0, 1));
        dueCable("plug threw", x, 0, 5, 1);
        x.plug(0, 0, 0, 2);
        dueCount("a FRAME was on it", x, 9, 1);
        dueCable("plugged anew", x, 0, 5, 0);
        dueCable("plugged anew", x, 0, 7, 0);
        dueCable("plugged anew", x, 0, 2, 2);
        dueLook("plugged anew", x, 0, 0, 3, 1);
        dueLook("plugged anew", x, 0, 0, 4, 3);
        dueLook("plugged anew", x, 0, 0, 9, 0);
        dueStages("plugged anew", x, 0, 0, 0);
        dueStages("the other CABLE", x, 1, 4, 4);
        x.plug(0, 5, 6, 1);
        dueLook("elsewhere", x, 0, 0, 8, -1);
        dueLook("elsewhere", x, 0, 0, 3, 0);
        dueLook("elsewhere", x, 1, 6, 8, 0);
        x.light(0, false);
        x.plug(0, 5, 6, 3);
        dueCable("plugged anew while cut", x, 0, 3, 1);
    }

    private static void pull() {
        BundlePair x = joined(1);
        Checks.dueIllegal("pull(8)", () -> x.pull(8));
        Checks.dueIllegal("pull(-1)", () -> x.pull(-1));
        Checks.dueBadState("pull(1)", () -> x.pull(1));
        dueCount("pull threw", x, 1, 7);
        x.give(1, 0, 0, 9);
        x.pull(0);
        dueCount("pull", x, 1, 0);
        dueCount("pull", x, 9, 1);
        int[] facts = {-1, -1, -1, 0, 0, 0, 0, 0, 0};
        for (int what = 0; what < facts.length; what++) {
            dueCable("pull", x, 0, what, facts[what]);
        }
        int[] portFacts = {5, 100, 5, 0, 0, 0, -1, 0, -1, 0, 0, 0, 0, 0};
        for (int what = 0; what < portFacts.length; what++) {
            dueLook("pull", x, 0, 0, what, portFacts[what]);
        }
        Checks.dueBadState("pull(0) again", () -> x.pull(0));
        x.plug(5, 0, 0, 1);
        x.light(5, false);
        x.pull(5);
        dueLook("pull of a cut CABLE", x, 0, 0, 8, -1);
        dueCount("pull of a cut CABLE", x, 9, 1);
    }

    private static void light() {
        BundlePair x = joined(1);
        Checks.dueIllegal("light(8, true)", () -> x.light(8, true));
        Checks.dueIllegal("light(-1, false)", () -> x.light(-1, false));
        Checks.dueBadState("light(1, true)", () -> x.light(1, true));
        Checks.dueBadState("light(1, false)", () -> x.light(1, false));
        Checks.dueBadState("light(0, true)", () -> x.light(0, true));
        dueCount("light threw", x, 1, 7);
        x.give(0, 0, 0, 1);
        x.give(1, 0, 0, 1);
        x.light(0, false);
        dueCount("cut", x, 1, 0);
        dueCount("cut", x, 9, 2);
        dueCable("cut", x, 0, 3, 0);
        dueCable("cut", x, 0, 1, 0);
        dueCable("cut", x, 0, 6, 0);
        dueLook("cut", x, 1, 0, 8, 0);
        dueLook("cut", x, 1, 0, 13, 0);
        dueLook("cut", x, 1, 0, 2, 4);
        dueStages("cut", x, 0, 0, 0);
        Checks.dueBadState("light(0, false) again", () -> x.light(0, false));
        int put = x.look(0, 0, 14);
        x.tick(5);
        dueLook("a cut CABLE's PORT puts none", x, 0, 0, 14, put);
        dueLook("a cut CABLE's PORT is DARK", x, 0, 0, 3, 0);
        x.light(0, true);
        dueLook("UP", x, 0, 0, 3, 1);
        dueLook("UP", x, 1, 0, 4, 3);
        x.tick(1);
        dueLook("the first NOTE since it is LIT", x, 0, 0, 14, put + 1);
        x.tick(6);
        dueStages("UP", x, 0, 4, 4);
    }

    private static void lose() {
        BundlePair x = new BundlePair();
        x.tick(2);
        Checks.dueIllegal("lose(2, 0, 1)", () -> x.lose(2, 0, 1));
        Checks.dueIllegal("lose(-1, 0, 1)", () -> x.lose(-1, 0, 1));
        Checks.dueIllegal("lose(0, 8, 1)", () -> x.lose(0, 8, 1));
        Checks.dueIllegal("lose(0, -1, 1)", () -> x.lose(0, -1, 1));
        Checks.dueIllegal("lose(0, 0, -1)", () -> x.lose(0, 0, -1));
        Checks.dueIllegal("lose(0, 0, 101)", () -> x.lose(0, 0, 101));
        dueCount("lose threw", x, 1, 2);
        x.lose(0, 7, 0);
        dueCount("lose", x, 1, 0);
        x.tick(1);
        x.lose(1, 7, 100);
        dueCount("lose", x, 1, 0);
    }

    private static void loseCounts() {
        BundlePair x = new BundlePair();
        join(x, 0, 1);
        x.lose(0, 0, 50);
        x.lose(0, 0, 2);
        x.lose(1, 1, 9);
        x.tick(2);
        dueLook("LOST ones count as put", x, 0, 0, 14, 2);
        dueCable("LOST ones are nowhere", x, 0, 7, 0);
        dueCount("behind a TICK with a LOST one", x, 1, 0);
        x.tick(1);
        dueCable("not LOST", x, 0, 7, 1);
        dueCount("behind a TICK without", x, 1, 1);
        dueLook("none came", x, 1, 0, 15, 0);
        x.tick(1);
        dueLook("one came", x, 1, 0, 15, 1);
        x.tick(20);
        dueStages("found at last", x, 0, 4, 4);
        x.lose(0, 0, 1);
        int put = x.look(0, 0, 14);
        x.port(0, 0, 5, 101);
        x.tick(1);
        dueLook("a LOST change", x, 0, 0, 14, put + 1);
        x.tick(1);
        dueLook("a LOST change is not told again at once", x, 0, 0, 14, put + 1);
        dueLook("a LOST change is not known", x, 1, 0, 11, 100);
        x.tick(31);
        dueLook("a LOST change is told with time", x, 1, 0, 11, 101);
    }

    private static void tickArguments() {
        BundlePair x = new BundlePair();
        Checks.dueIllegal("tick(0)", () -> x.tick(0));
        Checks.dueIllegal("tick(-1)", () -> x.tick(-1));
        Checks.dueIllegal("tick(MIN)", () -> x.tick(MIN));
        Checks.dueIllegal("tick(1001)", () -> x.tick(1001));
        dueCount("tick threw", x, 0, 0);
        Checks.due("tick(1)", x.tick(1), 0);
        Checks.due("tick(1000)", x.tick(1000), 0);
        dueCount("tick", x, 0, 1001);
        dueCount("tick", x, 1, 1001);
    }

    private static void tickTimers() {
        BundlePair x = joined(1);
        x.tick(5);
        x.lose(0, 0, 100);
        int left = x.look(1, 0, 4);
        x.tick(left - 1);
        dueLook("TIMER's last", x, 1, 0, 4, 1);
        dueLook("NEW yet", x, 1, 0, 3, 2);
        dueLook("IN STEP yet", x, 1, 0, 5, 4);
        x.tick(1);
        dueLook("NEW becomes OLD", x, 1, 0, 3, 1);
        dueLook("NEW becomes OLD", x, 1, 0, 4, 3);
        dueLook("NEW becomes OLD", x, 1, 0, 13, 5);
        dueLook("NEW becomes OLD", x, 1, 0, 9, 10);
        dueLook("OLD FITS", x, 1, 0, 6, 0);
        dueStages("NEW becomes OLD", x, 0, 4, 2);
        x.tick(1);
        dueLook("PARTNER left STAGE 4", x, 0, 0, 5, 3);
        x.tick(2);
        dueLook("OLD becomes NONE", x, 1, 0, 3, 3);
        dueLook("OLD becomes NONE", x, 1, 0, 4, 0);
        for (int what = 9; what <= 13; what++) {
            dueLook("OLD becomes NONE", x, 1, 0, what, 0);
        }
        dueLook("NONE FITS none", x, 1, 0, 6, -1);
        dueLook("NONE is APART", x, 1, 0, 5, 0);
        int put = x.look(1, 0, 14);
        x.tick(10);
        dueLook("a PORT that is not ACTIVE, nor its PARTNER", x, 1, 0, 14, put);
        dueLook("NONE stays", x, 1, 0, 4, 0);
    }

    private static void tickPauses() {
        BundlePair x = new BundlePair();
        join(x, 0, 1);
        x.lose(1, 0, 100);
        x.tick(5);
        dueLook("not NEW: a NOTE each TICK", x, 0, 0, 14, 5);
        dueLook("NONE tells too", x, 0, 0, 3, 3);
        BundlePair y = joined(1);
        y.tick(3);
        int put = y.look(0, 0, 14);
        int came = y.look(1, 0, 15);
        Checks.due("NOTES put and come", came, put);
        // In the 8th TICK both OWE their last NOTE: each was told of the other's STAGE 3.
        y.tick(27);
        dueLook("29 TICKS went by", y, 0, 0, 14, put);
        y.tick(1);
        dueLook("30 TICKS went by", y, 0, 0, 14, put + 1);
        y.tick(29);
        dueLook("29 TICKS went by", y, 0, 0, 14, put + 1);
        y.tick(1);
        dueLook("30 TICKS went by", y, 0, 0, 14, put + 2);
    }

    private static void tickDelays() {
        BundlePair x = new BundlePair();
        join(x, 0, 8);
        x.tick(8);
        dueCable("8 NOTES on their way", x, 0, 7, 8);
        dueLook("none came", x, 1, 0, 3, 3);
        x.tick(1);
        dueCable("8 NOTES on their way", x, 0, 7, 8);
        dueLook("one came", x, 1, 0, 15, 1);
        dueLook("one came", x, 1, 0, 3, 2);
        dueCable("the answer", x, 0, 8, 1);
        x.tick(7);
        dueLook("the answer is on its way", x, 0, 0, 3, 3);
        x.tick(1);
        dueLook("the answer came", x, 0, 0, 3, 2);
        x.tick(60);
        x.give(0, 0, 0, 4);
        int clock = x.count(0);
        Checks.due("tick(8)", x.tick(8), 0);
        dueCable("a FRAME on its way", x, 0, 5, 1);
        Checks.due("tick(1)", x.tick(1), 1);
        Checks.due("came(1, 0, 3)", x.came(1, 0, 3), clock + 8);
        dueCable("a FRAME that came", x, 0, 5, 0);
    }

    private static void tickDrops() {
        BundlePair x = joined(1);
        x.port(1, 0, 0, 100);
        Checks.due("give ahead of the TICK", x.give(0, 0, 0, 1), 0);
        Checks.due("tick(1)", x.tick(1), 0);
        dueCount("on its way", x, 8, 0);
        Checks.due("tick(1)", x.tick(1), 0);
        dueCount("DROPPED", x, 8, 1);
        dueCount("DROPPED", x, 7, 0);
        dueCount("DROPPED", x, 9, 0);
        Checks.dueMissing("came(1, 0, 0)", () -> x.came(1, 0, 0));
        Checks.due("give, APART", x.give(0, 0, 0, 1), -1);
    }

    /** PORTS 1 and 4 tell one KEY, 2 another one; 3's PARTNER has another one; 0 has KEY 0. */
    private static void tickBundles() {
        BundlePair x = new BundlePair();
        for (int i = 0; i < 5; i++) {
            join(x, i, 1);
        }
        x.port(0, 0, 0, 100);
        x.port(0, 2, 6, 100);
        x.port(1, 3, 8, 100);
        x.tick(10);
        int[] bundles = {-1, 1, 2, 3, 1};
        for (int i = 0; i < 5; i++) {
            dueLook("BUNDLES", x, 0, i, 6, bundles[i]);
            dueLook("BUNDLES", x, 1, i, 6, bundles[i]);
        }
        x.light(1, false);
        dueLook("its least PORT is DARK, no TICK yet", x, 0, 4, 6, 1);
        Checks.due("give to what it is called yet", x.give(0, 1, 0, 0), 4);
        x.tick(1);
        dueLook("its least PORT is DARK", x, 0, 4, 6, 4);
        Checks.due("give to what it was called", x.give(0, 1, 0, 0), -1);
        Checks.due("give", x.give(0, 4, 0, 0), 4);
    }

    private static void give() {
        BundlePair x = joined(3);
        Checks.dueIllegal("give(2, 0, 0, 0)", () -> x.give(2, 0, 0, 0));
        Checks.dueIllegal("give(-1, 0, 0, 0)", () -> x.give(-1, 0, 0, 0));
        Checks.dueIllegal("give(0, 0, -1, 0)", () -> x.give(0, 0, -1, 0));
        Checks.dueIllegal("give(0, 0, 256, 0)", () -> x.give(0, 0, 256, 0));
        Checks.dueIllegal("give(0, 9, 256, 0)", () -> x.give(0, 9, 256, 0));
        Checks.due("give(0, -1, 0, 0)", x.give(0, -1, 0, 0), -1);
        Checks.due("give(0, 1, 0, 0)", x.give(0, 1, 0, 0), -1);
        Checks.due("give(0, MAX, 0, 0)", x.give(0, MAX, 0, 0), -1);
        for (int i = 0; i < 7; i++) {
            Checks.due("give(0, 0, " + i + ", 0)", x.give(0, 0, i, 0), i % 3);
        }
        Checks.due("give(1, 0, 255, MIN)", x.give(1, 0, 255, MIN), 0);
        dueCount("give changes no QUIET", x, 1, 7);
        dueCable("FRAMES from END 0", x, 0, 5, 3);
        dueCable("FRAMES from END 1", x, 0, 6, 1);
        x.light(1, false);
        Checks.due("give(0, 0, 1, 0), two PORTS", x.give(0, 0, 1, 0), 2);
        Checks.due("tick(2)", x.tick(2), 3 + 1 + 2 + 1);
        Checks.due("came(0, 0, 2)", x.came(0, 0, 2), MIN);
    }

    private static void giveFull() {
        BundlePair x = joined(1);
        for (int i = 0; i < 200; i++) {
            Checks.due("give " + i, x.give(0, 0, i, i), 0);
        }
        Checks.due("give, 200 are on it", x.give(0, 0, 0, 0), -1);
        Checks.due("give the other way", x.give(1, 0, 0, 0), 0);
        dueCable("200 are on it", x, 0, 5, 200);
        Checks.due("tick(2)", x.tick(2), 201);
        Checks.due("give, none is on it", x.give(0, 0, 0, 0), 0);
        dueCount("200 came", x, 7, 200);
        Checks.due("the latest", x.came(1, 0, 2), 199);
        Checks.due("the last that is kept", x.came(1, 49, 2), 150);
        Checks.dueMissing("came(1, 50, 2)", () -> x.came(1, 50, 2));
    }

    private static void came() {
        BundlePair x = joined(1);
        Checks.dueMissing("came(1, 0, 0), none came", () -> x.came(1, 0, 0));
        x.give(0, 0, 200, -5);
        x.tick(1);
        x.give(0, 0, 201, MAX);
        Checks.due("tick(1), the first", x.tick(1), 1);
        Checks.due("tick(1), the second", x.tick(1), 1);
        Checks.due("tick(1), none", x.tick(1), 0);
        int[] latest = {0, 201, MAX, 9};
        int[] first = {0, 200, -5, 8};
        for (int what = 0; what < 4; what++) {
            Checks.due("came(1, 0, " + what + ")", x.came(1, 0, what), latest[what]);
            Checks.due("came(1, 1, " + what + ")", x.came(1, 1, what), first[what]);
        }
        Checks.due("came(1, 0, 4)", x.came(1, 0, 4), -1);
        Checks.due("came(1, 0, -1)", x.came(1, 0, -1), -1);
        Checks.due("came(1, 0, MIN)", x.came(1, 0, MIN), -1);
        Checks.dueMissing("came(1, 2, 0)", () -> x.came(1, 2, 0));
        Checks.dueMissing("came(1, -1, 0)", () -> x.came(1, -1, 0));
        Checks.dueMissing("came(1, MAX, 9)", () -> x.came(1, MAX, 9));
        Checks.dueMissing("came(0, 0, 0)", () -> x.came(0, 0, 0));
        Checks.dueMissing("came(2, 0, 0)", () -> x.came(2, 0, 0));
        Checks.dueMissing("came(-1, 0, 0)", () -> x.came(-1, 0, 0));
    }

    /** In one TICK CABLE 0's FRAMES come ahead of CABLE 1's, each in the order of giving. */
    private static void cameOrder() {
        BundlePair x = joined(2);
        x.give(0, 0, 1, 31);
        x.give(0, 0, 0, 32);
        x.give(0, 0, 1, 33);
        x.give(0, 0, 2, 34);
        Checks.due("tick(2)", x.tick(2), 4);
        int[] values = {33, 31, 34, 32};
        int[] at = {1, 1, 0, 0};
        for (int i = 0; i < 4; i++) {
            Checks.due("came(1, " + i + ", 2)", x.came(1, i, 2), values[i]);
            Checks.due("came(1, " + i + ", 0)", x.came(1, i, 0), at[i]);
        }
    }

    private static void look() {
        BundlePair x = new BundlePair();
        x.port(0, 3, 5, 70);
        x.port(1, 6, 7, 80);
        x.manner(0, 3, true, false);
        x.plug(2, 3, 6, 1);
        x.tick(10);
        int[] facts = {5, 70, 61, 2, 89, 4, 3, 1, 2, 20, 7, 80, 6, 60, 6, 6};
        int[] others = {7, 80, 60, 2, 89, 4, 6, 1, 2, 10, 5, 70, 3, 61, 6, 6};
        for (int what = 0; what < facts.length; what++) {
            dueLook("look", x, 0, 3, what, facts[what]);
            dueLook("look", x, 1, 6, what, others[what]);
        }
        dueLook("another what", x, 0, 0, 16, -1);
        dueLook("another what", x, 0, 0, -1, -1);
        dueLook("another what", x, 0, 0, MAX, -1);
        Checks.dueMissing("look(2, 0, 0)", () -> x.look(2, 0, 0));
        Checks.dueMissing("look(-1, 0, 0)", () -> x.look(-1, 0, 0));
        Checks.dueMissing("look(0, 8, 0)", () -> x.look(0, 8, 0));
        Checks.dueMissing("look(0, -1, 16)", () -> x.look(0, -1, 16));
        x.light(2, false);
        for (int what = 9; what <= 13; what++) {
            dueLook("DARK", x, 0, 3, what, 0);
        }
    }

    private static void cable() {
        BundlePair x = joined(1);
        x.give(0, 0, 0, 0);
        x.give(0, 0, 0, 0);
        x.give(1, 0, 0, 0);
        int[] facts = {0, 0, 1, 1, 1, 2, 1, 1, 1};
        for (int what = 0; what < facts.length; what++) {
            dueCable("cable", x, 0, what, facts[what]);
        }
        dueCable("another what", x, 0, 9, -1);
        dueCable("another what", x, 0, -1, -1);
        Checks.dueMissing("cable(8, 0)", () -> x.cable(8, 0));
        Checks.dueMissing("cable(-1, 9)", () -> x.cable(-1, 9));
        Checks.dueMissing("cable(MIN, 0)", () -> x.cable(MIN, 0));
    }

    private static void cableMeant() {
        BundlePair x = new BundlePair();
        x.plug(0, 0, 0, 1);
        dueCable("no KEYS", x, 0, 4, 0);
        x.port(0, 0, 5, 100);
        x.manner(1, 0, true, false);
        dueCable("one KEY", x, 0, 4, 0);
        x.port(1, 0, 7, 100);
        dueCable("AGREES", x, 0, 4, 1);
        x.manner(1, 0, false, true);
        dueCable("none is ACTIVE", x, 0, 4, 0);
        x.manner(0, 0, true, false);
        dueCable("AGREES", x, 0, 4, 1);
        join(x, 1, 1);
        x.limit(0, 1);
        dueCable("the lesser number", x, 0, 4, 1);
        dueCable("the lesser number", x, 1, 4, 0);
        x.port(0, 1, 5, 99);
        dueCable("the lesser PRIORITY", x, 0, 4, 0);
        dueCable("the lesser PRIORITY", x, 1, 4, 1);
        x.port(1, 1, 8, 100);
        dueCable("another GROUP", x, 0, 4, 1);
        dueCable("another GROUP", x, 1, 4, 1);
        x.light(0, false);
        dueCable("cut", x, 0, 4, 0);
    }

    private static void note() {
        BundlePair x = new BundlePair();
        x.system(0, 0x0A0B0C);
        x.port(0, 3, 0x1122, 0x3344);
        x.port(1, 6, 0xFFFE, 0xFDFC);
        x.manner(0, 3, true, true);
        x.plug(0, 3, 6, 1);
        x.tick(3);
        int[] bytes = {0, 0x0A, 0x0B, 0x0C, 0x11, 0x22, 0x33, 0x44, 0, 3, 7,
            0, 0, 0, 20, 0xFF, 0xFE, 0xFD, 0xFC, 0, 6, 4};
        for (int i = 0; i < bytes.length; i++) {
            Checks.due("note(0, 3, " + i + ")", x.note(0, 3, i), bytes[i]);
        }
        Checks.due("note(0, 3, 22)", x.note(0, 3, 22), -1);
        Checks.due("note(0, 3, -1)", x.note(0, 3, -1), -1);
        Checks.due("note(0, 3, MAX)", x.note(0, 3, MAX), -1);
        Checks.due("note(2, 3, 0)", x.note(2, 3, 0), -1);
        Checks.due("note(-1, 3, 0)", x.note(-1, 3, 0), -1);
        Checks.due("note(0, 8, 0)", x.note(0, 8, 0), -1);
        Checks.due("note(0, -1, 0)", x.note(0, -1, 0), -1);
        Checks.due("note of a DARK PORT", x.note(1, 7, 9), 7);
        Checks.due("note of a DARK PORT's PARTNER", x.note(1, 7, 14), 0);
    }

    private static void count() {
        BundlePair x = joined(2);
        x.system(1, 30);
        x.limit(0, 3);
        x.limit(1, 4);
        x.tick(20);
        x.give(0, 0, 0, 0);
        x.give(0, 0, 1, 0);
        x.give(1, 0, 0, 0);
        x.tick(2);
        x.give(0, 0, 0, 0);
        x.give(1, 0, 1, 0);
        x.pull(0);
        x.port(0, 1, 0, 100);
        x.tick(2);
        int[] counts = {31, 2, 10, 30, 3, 4, 1, 2, 1, 1, 0, 0, 0};
        for (int what = 0; what < counts.length; what++) {
            dueCount("count", x, what, counts[what]);
        }
        dueCount("another what", x, 13, -1);
        dueCount("another what", x, -1, -1);
        dueCount("another what", x, MIN, -1);
        x.tick(1000);
        dueCount("the CLOCK", x, 0, 1031);
        dueCount("QUIET", x, 1, 1002);
        dueCount("always 0", x, 10, 0);
    }

    /** CABLE 0 has a DELAY of 8, the others of 1; PORT 2 has another KEY. */
    private static BundlePair slowAndFast() {
        BundlePair x = new BundlePair();
        join(x, 0, 8);
        join(x, 1, 1);
        join(x, 2, 1);
        x.port(0, 2, 6, 100);
        x.tick(60);
        return x;
    }

    private static void dueOvertaking(String when, BundlePair x, int first, int last) {
        Checks.due(when + ": tick(20)", x.tick(20), 2);
        Checks.due(when + ": the first", x.came(1, 1, 2), first);
        Checks.due(when + ": the last", x.came(1, 0, 2), last);
        dueCount(when, x, 12, 0);
    }

    /** A FRAME may come behind a later one of another CONVERSATION, or of another BUNDLE. */
    private static void countOtherConversations() {
        BundlePair x = slowAndFast();
        Checks.due("give to the slow CABLE", x.give(0, 0, 0, 71), 0);
        Checks.due("give to the fast CABLE", x.give(0, 0, 1, 72), 1);
        dueOvertaking("another CONVERSATION", x, 72, 71);
        Checks.due("give to the slow CABLE", x.give(0, 0, 0, 73), 0);
        Checks.due("give to another BUNDLE", x.give(0, 2, 0, 74), 2);
        dueOvertaking("another BUNDLE", x, 74, 73);
    }

    /** A FRAME may come behind a later one of its CONVERSATION if a PORT left STAGE 4 between. */
    private static void countOtherGivers() {
        BundlePair x = slowAndFast();
        Checks.due("give to the slow CABLE", x.give(0, 0, 0, 71), 0);
        x.port(0, 0, 5, 101);
        x.limit(0, 1);
        x.tick(1);
        dueLook("not CHOSEN", x, 0, 0, 5, 0);
        Checks.due("give to the fast CABLE", x.give(0, 0, 0, 72), 1);
        dueOvertaking("a PORT left STAGE 4", x, 72, 71);
    }

    /** PORT 0, never in STAGE 4, goes from PORT 1's BUNDLE to PORT 2's and takes its number along. */
    private static void countOtherBundles() {
        BundlePair x = new BundlePair();
        join(x, 0, 1);
        join(x, 1, 8);
        join(x, 2, 1);
        x.port(0, 0, 5, 101);
        x.port(0, 2, 6, 100);
        x.limit(0, 1);
        x.tick(60);
        Checks.due("give to the slow CABLE", x.give(0, 0, 0, 71), 1);
        x.port(0, 0, 6, 101);
        x.tick(1);
        dueLook("PORT 0 left its BUNDLE", x, 0, 1, 6, 1);
        dueLook("PORT 0 is in its BUNDLE", x, 0, 2, 6, 0);
        Checks.due("give to the fast CABLE", x.give(0, 0, 0, 72), 2);
        dueOvertaking("a PORT changed its BUNDLE in STAGE 4", x, 72, 71);
    }
}

/** What tests start from, and what they look at, again and again. */
abstract class Scenes {
    static final int MIN = Integer.MIN_VALUE;
    static final int MAX = Integer.MAX_VALUE;

    /** PORTS i and i of both ENDS, KEYS 5 and 7, END 0's ACTIVE, on CABLE i. */
    static void join(BundlePair x, int i, int delay) {
        x.port(0, i, 5, 100);
        x.port(1, i, 7, 100);
        x.manner(0, i, true, false);
        x.plug(i, i, i, delay);
    }

    /** With DELAY 1 both PORTS come to STAGE 4 in the 7th TICK. */
    static BundlePair joined(int cables) {
        BundlePair x = new BundlePair();
        for (int i = 0; i < cables; i++) {
            join(x, i, 1);
        }
        x.tick(7);
        return x;
    }

    static void dueLook(String when, BundlePair x, int end, int port, int what, int want) {
        Checks.due(when + ": look(" + end + ", " + port + ", " + what + ")", x.look(end, port, what), want);
    }

    static void dueCable(String when, BundlePair x, int cable, int what, int want) {
        Checks.due(when + ": cable(" + cable + ", " + what + ")", x.cable(cable, what), want);
    }

    static void dueCount(String when, BundlePair x, int what, int want) {
        Checks.due(when + ": count(" + what + ")", x.count(what), want);
    }

    static void dueStages(String when, BundlePair x, int port, int atEnd0, int atEnd1) {
        dueLook(when, x, 0, port, 5, atEnd0);
        dueLook(when, x, 1, port, 5, atEnd1);
    }
}

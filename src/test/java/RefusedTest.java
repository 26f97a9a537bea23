import java.util.Arrays;
import java.util.NoSuchElementException;
import java.util.function.Consumer;

/**
 * Each call that the document refuses, on a pair in full use: it throws what the promise names,
 * and "A call that throws changes nothing; of two exceptions the one named first is thrown."
 */
public final class RefusedTest extends Scenes {
    /** What a refused call did to what no call shows at once is seen some TICKS later. */
    private static final int[] LATER = {0, 1, 60};
    private static final int[] NO_END = {MIN, -1, 2, 8, MAX};
    private static final int[] NO_PORT = {MIN, -1, 8, 16, MAX};
    private static final int[] NO_CABLE = {MIN, -1, 8, 16, MAX};

    private static int[][] untouched;

    private RefusedTest() {
    }

    public static void main(String[] args) {
        untouched = states(x -> { });
        isBusy();
        system();
        limit();
        port();
        manner();
        plug();
        pull();
        light();
        lose();
        tick();
        give();
        came();
        look();
        cable();
        Checks.end();
    }

    /** CABLES 0 and 1 in use, with FRAMES on them, 2 cut, 3 without KEYS, 4 to 7 not PLUGGED. */
    private static BundlePair busy() {
        BundlePair x = new BundlePair();
        join(x, 0, 2);
        join(x, 1, 3);
        x.tick(40);
        for (int i = 0; i < 6; i++) {
            x.give(i % 2, 0, i, 10 + i);
        }
        x.tick(5);
        x.plug(2, 2, 3, 1);
        x.light(2, false);
        x.plug(3, 3, 2, 8);
        x.lose(0, 1, 3);
        x.give(0, 0, 0, 20);
        x.give(0, 0, 1, 21);
        x.give(1, 0, 0, 22);
        x.tick(1);
        return x;
    }

    private static void isBusy() {
        BundlePair x = busy();
        for (int i = 0; i < 2; i++) {
            dueStages("busy", x, i, 4, 4);
            dueCable("busy", x, i, 5, 1);
        }
        dueCable("busy", x, 0, 6, 1);
        dueCable("busy", x, 2, 3, 0);
        dueCable("busy", x, 3, 3, 1);
        dueCable("busy", x, 4, 0, -1);
        dueCount("busy", x, 1, 1);
        dueCount("busy", x, 6, 3);
        dueCount("busy", x, 7, 3);
    }

    private static int[][] states(Consumer<BundlePair> call) {
        int[][] states = new int[LATER.length][];
        for (int i = 0; i < LATER.length; i++) {
            BundlePair x = busy();
            call.accept(x);
            if (LATER[i] > 0) {
                x.tick(LATER[i]);
            }
            states[i] = state(x);
        }
        return states;
    }

    private static int[] state(BundlePair x) {
        int[] facts = new int[512];
        int next = 0;
        for (int i = 0; i < 256; i++) {
            facts[next++] = x.look(i / 128, i / 16 % 8, i % 16);
        }
        for (int i = 0; i < 72; i++) {
            facts[next++] = x.cable(i / 9, i % 9);
        }
        for (int what = 0; what <= 12; what++) {
            facts[next++] = x.count(what);
        }
        for (int end = 0; end < 2; end++) {
            for (int i = 0; i < Math.min(x.count(6 + end), 50); i++) {
                facts[next++] = x.came(end, i, 2);
            }
        }
        return facts;
    }

    private static void refused(String call, Class<? extends Exception> due, Consumer<BundlePair> body) {
        BundlePair x = busy();
        Checks.dueThrow(call, due, () -> body.accept(x));
        int[][] touched = states(y -> {
            try {
                body.accept(y);
            } catch (RuntimeException e) {
                // What it throws has been looked at above.
            }
        });
        for (int i = 0; i < LATER.length; i++) {
            Checks.due(call + " changed what shows " + LATER[i] + " TICKS later",
                Arrays.mismatch(touched[i], untouched[i]), -1);
        }
    }

    private static void illegal(String call, Consumer<BundlePair> body) {
        refused(call, IllegalArgumentException.class, body);
    }

    private static void badState(String call, Consumer<BundlePair> body) {
        refused(call, IllegalStateException.class, body);
    }

    private static void missing(String call, Consumer<BundlePair> body) {
        refused(call, NoSuchElementException.class, body);
    }

    /** "there is no such END, or it is not 1 to 1000000"; "the other END has it". */
    private static void system() {
        for (int end : NO_END) {
            illegal("system, END " + end, x -> x.system(end, 5));
            illegal("system, END " + end + ", what END 1 has", x -> x.system(end, 20));
        }
        for (int system : new int[] {MIN, -1, 0, 1000001, MAX}) {
            illegal("system(0, " + system + ")", x -> x.system(0, system));
            illegal("system(1, " + system + ")", x -> x.system(1, system));
        }
        badState("system(0, 20)", x -> x.system(0, 20));
        badState("system(1, 10)", x -> x.system(1, 10));
    }

    /** "there is no such END, or it is not 1 to 8". */
    private static void limit() {
        for (int end : NO_END) {
            illegal("limit, END " + end, x -> x.limit(end, 1));
        }
        for (int limit : new int[] {MIN, -1, 0, 9, MAX}) {
            illegal("limit(0, " + limit + ")", x -> x.limit(0, limit));
            illegal("limit(1, " + limit + ")", x -> x.limit(1, limit));
        }
    }

    /** "there is no such END or PORT, or one of these is not as told". */
    private static void port() {
        for (int end : NO_END) {
            illegal("port, END " + end, x -> x.port(end, 0, 1, 1));
        }
        for (int port : NO_PORT) {
            illegal("port, PORT " + port, x -> x.port(0, port, 1, 1));
        }
        for (int word : new int[] {MIN, -1, 65536, MAX}) {
            illegal("port, KEY " + word, x -> x.port(0, 0, word, 1));
            illegal("port, PRIORITY " + word, x -> x.port(1, 0, 1, word));
        }
    }

    /** "there is no such END or PORT". */
    private static void manner() {
        for (int end : NO_END) {
            illegal("manner, END " + end, x -> x.manner(end, 0, false, true));
        }
        for (int port : NO_PORT) {
            illegal("manner, PORT " + port, x -> x.manner(0, port, false, true));
        }
    }

    /** "there is no such CABLE or PORT, or delay is not 1 to 8"; "another CABLE is in one of these PORTS". */
    private static void plug() {
        for (int cable : NO_CABLE) {
            illegal("plug, CABLE " + cable, x -> x.plug(cable, 5, 5, 1));
            illegal("plug, CABLE " + cable + ", PORTS that are in use", x -> x.plug(cable, 0, 0, 1));
        }
        for (int port : NO_PORT) {
            illegal("plug, a is " + port, x -> x.plug(0, port, 5, 1));
            illegal("plug, b is " + port, x -> x.plug(0, 5, port, 1));
            illegal("plug, a is " + port + ", b in use", x -> x.plug(0, port, 1, 1));
            illegal("plug, b is " + port + ", a in use", x -> x.plug(0, 1, port, 1));
        }
        for (int delay : new int[] {MIN, -1, 0, 9, MAX}) {
            illegal("plug, DELAY " + delay, x -> x.plug(0, 5, 5, delay));
            illegal("plug, DELAY " + delay + ", PORTS that are in use", x -> x.plug(4, 0, 1, delay));
        }
        badState("plug, another CABLE is in a", x -> x.plug(4, 0, 5, 1));
        badState("plug, another CABLE is in b", x -> x.plug(4, 5, 0, 1));
        badState("plug, another CABLE is in both", x -> x.plug(4, 1, 1, 1));
        badState("plug, two other CABLES are in both", x -> x.plug(4, 0, 1, 1));
        badState("plug, a cut CABLE is in a", x -> x.plug(4, 2, 5, 1));
        badState("plug, a cut CABLE is in b", x -> x.plug(4, 5, 3, 1));
        badState("plug anew, another CABLE is in a", x -> x.plug(0, 1, 0, 1));
        badState("plug anew, another CABLE is in b", x -> x.plug(0, 0, 1, 1));
        badState("plug a cut one anew, another CABLE is in b", x -> x.plug(2, 2, 2, 1));
    }

    /** "there is no such CABLE"; "it is not PLUGGED". */
    private static void pull() {
        for (int cable : NO_CABLE) {
            illegal("pull, CABLE " + cable, x -> x.pull(cable));
        }
        badState("pull(4)", x -> x.pull(4));
        badState("pull(7)", x -> x.pull(7));
    }

    /** "there is no such CABLE"; "it is not PLUGGED, or is so already". */
    private static void light() {
        for (int cable : NO_CABLE) {
            illegal("light up, CABLE " + cable, x -> x.light(cable, true));
            illegal("cut, CABLE " + cable, x -> x.light(cable, false));
        }
        badState("light(4, true), not PLUGGED", x -> x.light(4, true));
        badState("light(7, false), not PLUGGED", x -> x.light(7, false));
        badState("light(0, true), UP already", x -> x.light(0, true));
        badState("light(2, false), cut already", x -> x.light(2, false));
    }

    /** "there is no such END or CABLE, or n is not as told". */
    private static void lose() {
        for (int end : NO_END) {
            illegal("lose, END " + end, x -> x.lose(end, 0, 1));
        }
        for (int cable : NO_CABLE) {
            illegal("lose, CABLE " + cable, x -> x.lose(0, cable, 1));
        }
        for (int n : new int[] {MIN, -1, 101, MAX}) {
            illegal("lose, n is " + n, x -> x.lose(0, 1, n));
            illegal("lose, n is " + n, x -> x.lose(1, 0, n));
        }
    }

    /** "n is not 1 to 1000". */
    private static void tick() {
        for (int n : new int[] {MIN, -1, 0, 1001, MAX}) {
            illegal("tick(" + n + ")", x -> x.tick(n));
        }
    }

    /** "there is no such END, or conversation is not 0 to 255". */
    private static void give() {
        for (int end : NO_END) {
            illegal("give, END " + end, x -> x.give(end, 0, 0, 1));
        }
        for (int conversation : new int[] {MIN, -1, 256, MAX}) {
            illegal("give, CONVERSATION " + conversation, x -> x.give(0, 0, conversation, 1));
            illegal("give to no BUNDLE, CONVERSATION " + conversation, x -> x.give(1, 7, conversation, 1));
        }
    }

    /** "NoSuchElementException: there is none such": three FRAMES came to each END. */
    private static void came() {
        for (int end : NO_END) {
            missing("came, END " + end, x -> x.came(end, 0, 0));
        }
        for (int i : new int[] {MIN, -1, 3, 49, 50, MAX}) {
            missing("came(0, " + i + ", 0)", x -> x.came(0, i, 0));
            missing("came(1, " + i + ", 4), another what", x -> x.came(1, i, 4));
        }
    }

    /** "there is no such END or PORT". */
    private static void look() {
        for (int end : NO_END) {
            missing("look, END " + end, x -> x.look(end, 0, 0));
        }
        for (int port : NO_PORT) {
            missing("look, PORT " + port, x -> x.look(0, port, 0));
            missing("look, PORT " + port + ", another what", x -> x.look(1, port, 16));
        }
    }

    /** "there is no such CABLE". */
    private static void cable() {
        for (int cable : NO_CABLE) {
            missing("cable(" + cable + ", 0)", x -> x.cable(cable, 0));
            missing("cable(" + cable + ", 9), another what", x -> x.cable(cable, 9));
        }
    }
}

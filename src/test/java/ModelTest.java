import java.util.NoSuchElementException;
import java.util.Random;
import java.util.function.IntSupplier;

/** Random runs of at most 512 calls, each answer held against the plain Model's. */
public final class ModelTest {
    private static final int RUNS = 6000;
    private static final int[] KEYS = {0, 5, 5, 5, 7, 65535};
    private static final int[] PRIORITIES = {0, 50, 100, 100, 300, 65535};
    private static final int[] SYSTEMS = {1, 5, 10, 15, 20, 25, 70000, 1000000};
    private static final int[] TICKS = {1, 1, 1, 1, 2, 3, 4, 5, 8, 12, 30, 35, 95, 130, 320};

    private final Random random;
    private final String name;
    private final BundlePair pair = new BundlePair();
    private final Model model = new Model();

    private ModelTest(int run) {
        random = new Random(run);
        name = "run " + run + ": ";
    }

    public static void main(String[] args) {
        for (int run = 0; run < RUNS && Checks.allRight(); run++) {
            new ModelTest(run).play();
        }
        Checks.end();
    }

    private void play() {
        int cables = 1 + random.nextInt(8);
        boolean rough = random.nextInt(4) == 0;
        for (int i = 0; i < cables; i++) {
            setUpCable(i);
        }
        int calls = 20 + random.nextInt(70);
        for (int i = 0; i < calls; i++) {
            playCall(rough);
        }
        compareAll();
    }

    private void setUpCable(int i) {
        both("port", () -> pair.port(0, i, 5, oneOf(PRIORITIES, i)), () -> model.port(0, i, 5, oneOf(PRIORITIES, i)));
        int key = random.nextInt(6) == 0 ? 9 : 7;
        both("port", () -> pair.port(1, i, key, 100), () -> model.port(1, i, key, 100));
        boolean active = random.nextInt(5) > 0;
        boolean quick = random.nextInt(3) == 0;
        both("manner", () -> pair.manner(i % 2, i, active, quick), () -> model.manner(i % 2, i, active, quick));
        int to = random.nextBoolean() ? i : 7 - i;
        int delay = 1 + random.nextInt(random.nextBoolean() ? 3 : 8);
        both("plug", () -> pair.plug(i, i, to, delay), () -> model.plug(i, i, to, delay));
    }

    private static int oneOf(int[] row, int i) {
        return row[i % row.length];
    }

    private int any(int[] row) {
        return row[random.nextInt(row.length)];
    }

    /** A number from 0 on, below bound; rarely one just outside, or far from it. */
    private int number(int bound) {
        switch (random.nextInt(60)) {
            case 0: return -1;
            case 1: return bound;
            case 2: return random.nextBoolean() ? Integer.MIN_VALUE : Integer.MAX_VALUE;
            default: return random.nextInt(bound);
        }
    }

    private void playCall(boolean rough) {
        int kind = random.nextInt(rough ? 40 : 100);
        if (kind < 12) {
            playSetting(kind);
        } else if (kind < 20) {
            playCabling(kind);
        } else if (kind < 32) {
            int n = random.nextInt(60) == 0 ? random.nextInt(2) * 1001 : any(TICKS);
            both("tick(" + n + ")", () -> pair.tick(n), () -> model.tick(n));
        } else if (kind < 36) {
            playLook();
        } else {
            playGive();
        }
    }

    private void playSetting(int kind) {
        int end = number(2);
        int port = number(8);
        boolean first = random.nextInt(3) > 0;
        boolean second = random.nextInt(3) == 0;
        if (kind < 2) {
            int system = random.nextInt(9) == 0 ? random.nextInt(2) * 1000001 : any(SYSTEMS);
            both("system(" + end + ", " + system + ")", () -> pair.system(end, system), () -> model.system(end, system));
        } else if (kind < 4) {
            int limit = random.nextInt(9) == 0 ? random.nextInt(2) * 9 : 1 + random.nextInt(4);
            both("limit(" + end + ", " + limit + ")", () -> pair.limit(end, limit), () -> model.limit(end, limit));
        } else if (kind < 8) {
            int key = random.nextInt(30) == 0 ? -1 : any(KEYS);
            int priority = random.nextInt(30) == 0 ? 65536 : any(PRIORITIES);
            both("port(" + end + ", " + port + ", " + key + ", " + priority + ")",
                () -> pair.port(end, port, key, priority), () -> model.port(end, port, key, priority));
        } else {
            both("manner(" + end + ", " + port + ", " + first + ", " + second + ")",
                () -> pair.manner(end, port, first, second), () -> model.manner(end, port, first, second));
        }
    }

    private void playCabling(int kind) {
        int cable = number(8);
        int a = number(8);
        int b = number(8);
        int delay = 1 + number(8);
        boolean up = random.nextBoolean();
        if (kind < 14) {
            both("plug(" + cable + ", " + a + ", " + b + ", " + delay + ")",
                () -> pair.plug(cable, a, b, delay), () -> model.plug(cable, a, b, delay));
        } else if (kind < 15) {
            both("pull(" + cable + ")", () -> pair.pull(cable), () -> model.pull(cable));
        } else if (kind < 18) {
            both("light(" + cable + ", " + up + ")", () -> pair.light(cable, up), () -> model.light(cable, up));
        } else {
            int end = number(2);
            int n = random.nextInt(4) == 0 ? number(101) : random.nextInt(4);
            both("lose(" + end + ", " + cable + ", " + n + ")", () -> pair.lose(end, cable, n), () -> model.lose(end, cable, n));
        }
    }

    private void playGive() {
        int end = number(2);
        int bundle = random.nextInt(3) > 0 ? 0 : number(8);
        int conversation = number(256);
        int value = random.nextInt();
        both("give(" + end + ", " + bundle + ", " + conversation + ")",
            () -> pair.give(end, bundle, conversation, value), () -> model.give(end, bundle, conversation, value));
    }

    private void playLook() {
        int end = number(2);
        int port = number(8);
        compareLook(end, port, number(16));
        compareCable(port, number(9));
        compareCame(end, number(3), number(4));
        compareNote(end, port, number(22));
    }

    private void compareAll() {
        for (int what = 0; what <= 13; what++) {
            int w = what;
            both("count(" + w + ")", () -> pair.count(w), () -> model.count(w));
        }
        for (int i = 0; i < 8; i++) {
            for (int what = 0; what < 9; what++) {
                compareCable(i, what);
            }
            for (int what = 2; what < 16; what++) {
                compareLook(0, i, what);
                compareLook(1, i, what);
            }
        }
        for (int i = 0; i < 3; i++) {
            compareCame(0, i * 24, i);
            compareCame(1, i * 24, 3 - i);
        }
    }

    private void compareLook(int end, int port, int what) {
        both("look(" + end + ", " + port + ", " + what + ")",
            () -> pair.look(end, port, what), () -> model.look(end, port, what));
    }

    private void compareCable(int cable, int what) {
        both("cable(" + cable + ", " + what + ")", () -> pair.cable(cable, what), () -> model.cable(cable, what));
    }

    private void compareCame(int end, int i, int what) {
        both("came(" + end + ", " + i + ", " + what + ")", () -> pair.came(end, i, what), () -> model.came(end, i, what));
    }

    private void compareNote(int end, int port, int i) {
        both("note(" + end + ", " + port + ", " + i + ")", () -> pair.note(end, port, i), () -> model.note(end, port, i));
    }

    private void both(String call, Runnable one, Runnable other) {
        both(call, () -> done(one), () -> done(other));
    }

    private static int done(Runnable body) {
        body.run();
        return 0;
    }

    private void both(String call, IntSupplier one, IntSupplier other) {
        Checks.due(name + call, answer(one), answer(other));
    }

    /** Above all ints for an exception, one number for each of the three that the document names. */
    private static long answer(IntSupplier body) {
        try {
            return body.getAsInt();
        } catch (IllegalArgumentException e) {
            return 1L << 40;
        } catch (IllegalStateException e) {
            return 1L << 41;
        } catch (NoSuchElementException e) {
            return 1L << 42;
        }
    }
}

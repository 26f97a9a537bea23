import java.util.ArrayList;
import java.util.Arrays;
import java.util.Comparator;
import java.util.Iterator;
import java.util.List;
import java.util.NoSuchElementException;

/**
 * The document once more, word by word and without a thought for speed: all that is on a CABLE
 * stands in one list in the order in which it was put, OWN and MEANT are worked out anew each time.
 */
final class Model {
    static final int SYSTEM = 0;
    static final int KEY = 1;
    static final int PRIORITY = 2;
    static final int NUMBER = 3;
    static final int BITS = 4;

    static final class Port {
        int end;
        int number;
        int key = 0;
        int priority = 100;
        boolean active;
        boolean quick;
        int[] partner = new int[5];
        int view = 0;
        int timer = 0;
        int stage = 0;
        int wait = 0;
        int[] asItLeft;
        int bundle = -1;
        boolean chosen;
        boolean got;
        boolean owes;
        int[] lastOwn;
        int lastClock;
        int put;
        int came;
    }

    static final class Item {
        int from;
        int putAt;
        int[] own;
        int[] partner;
        int conversation;
        int value;

        boolean isFrame() {
            return own == null;
        }
    }

    static final class Cable {
        boolean plugged;
        boolean up;
        int[] at = new int[2];
        int delay;
        int[] lose = new int[2];
        List<Item> items = new ArrayList<>();

        int countItems(boolean frames, int from) {
            return (int) items.stream().filter(i -> i.isFrame() == frames && i.from == from).count();
        }
    }

    final int[] systems = {10, 20};
    final int[] limits = {8, 8};
    final Port[][] ports = new Port[2][8];
    final Cable[] cables = new Cable[8];
    final List<List<int[]>> kept = List.of(new ArrayList<>(), new ArrayList<>());
    int clock;
    int quiet;
    int dropped;
    int gone;

    Model() {
        for (int e = 0; e < 2; e++) {
            for (int p = 0; p < 8; p++) {
                ports[e][p] = new Port();
                ports[e][p].end = e;
                ports[e][p].number = p;
            }
        }
        Arrays.setAll(cables, i -> new Cable());
    }

    private static void must(boolean holds) {
        if (!holds) {
            throw new IllegalArgumentException();
        }
    }

    private static void mustBe(boolean holds) {
        if (!holds) {
            throw new IllegalStateException();
        }
    }

    private static boolean in(int x, int least, int most) {
        return least <= x && x <= most;
    }

    Cable cableIn(int end, int port) {
        for (Cable c : cables) {
            if (c.plugged && c.at[end] == port) {
                return c;
            }
        }
        return null;
    }

    boolean lit(Port p) {
        Cable c = cableIn(p.end, p.number);
        return c != null && c.up;
    }

    int[] own(Port p) {
        int bits = (p.active ? 1 : 0) + (p.quick ? 2 : 0) + (p.key > 0 ? 4 : 0);
        bits += new int[] {0, 0, 8, 8 + 16, 8 + 16 + 32}[p.stage];
        return new int[] {systems[p.end], p.key, p.priority, p.number, bits};
    }

    int system(int end, int system) {
        must(in(end, 0, 1) && in(system, 1, 1000000));
        mustBe(systems[1 - end] != system);
        int was = systems[end];
        systems[end] = system;
        quiet = 0;
        return was;
    }

    int limit(int end, int limit) {
        must(in(end, 0, 1) && in(limit, 1, 8));
        int was = limits[end];
        limits[end] = limit;
        quiet = 0;
        return was;
    }

    void port(int end, int port, int key, int priority) {
        must(in(end, 0, 1) && in(port, 0, 7) && in(key, 0, 65535) && in(priority, 0, 65535));
        ports[end][port].key = key;
        ports[end][port].priority = priority;
        quiet = 0;
    }

    void manner(int end, int port, boolean active, boolean quick) {
        must(in(end, 0, 1) && in(port, 0, 7));
        ports[end][port].active = active;
        ports[end][port].quick = quick;
        quiet = 0;
    }

    void plug(int cable, int a, int b, int delay) {
        must(in(cable, 0, 7) && in(a, 0, 7) && in(b, 0, 7) && in(delay, 1, 8));
        Cable c = cables[cable];
        mustBe(cableIn(0, a) == null || cableIn(0, a) == c);
        mustBe(cableIn(1, b) == null || cableIn(1, b) == c);
        if (c.plugged) {
            pull(cable);
        }
        c.plugged = true;
        c.at = new int[] {a, b};
        c.delay = delay;
        goUp(c);
        quiet = 0;
    }

    void pull(int cable) {
        must(in(cable, 0, 7));
        Cable c = cables[cable];
        mustBe(c.plugged);
        if (c.up) {
            goDown(c);
        }
        c.plugged = false;
        quiet = 0;
    }

    void light(int cable, boolean up) {
        must(in(cable, 0, 7));
        Cable c = cables[cable];
        mustBe(c.plugged && c.up != up);
        if (up) {
            goUp(c);
        } else {
            goDown(c);
        }
        quiet = 0;
    }

    void lose(int end, int cable, int n) {
        must(in(end, 0, 1) && in(cable, 0, 7) && in(n, 0, 100));
        cables[cable].lose[end] = n;
        quiet = 0;
    }

    private void goUp(Cable c) {
        c.up = true;
        for (int e = 0; e < 2; e++) {
            Port p = ports[e][c.at[e]];
            p.view = 1;
            p.timer = 3;
            p.partner[BITS] &= 7;
            p.stage = 0;
            p.lastOwn = null;
        }
    }

    private void goDown(Cable c) {
        gone += c.countItems(true, 0) + c.countItems(true, 1);
        c.items.clear();
        c.up = false;
        for (int e = 0; e < 2; e++) {
            Port p = ports[e][c.at[e]];
            p.view = 0;
            p.timer = 0;
            p.stage = 0;
            p.partner = new int[5];
        }
    }

    int tick(int n) {
        must(in(n, 1, 1000));
        int came = 0;
        for (int i = 0; i < n; i++) {
            came += oneTick();
        }
        return came;
    }

    private List<Port> litPorts() {
        List<Port> list = new ArrayList<>();
        for (Port[] row : ports) {
            for (Port p : row) {
                if (lit(p)) {
                    list.add(p);
                }
            }
        }
        return list;
    }

    private int oneTick() {
        int came = arrive();
        List<Port> lit = litPorts();
        lit.forEach(this::runTimer);
        formBundles(0);
        formBundles(1);
        lit.forEach(this::step);
        boolean lost = false;
        for (Port p : lit) {
            lost |= speak(p);
        }
        clock++;
        quiet = lost ? 0 : quiet + 1;
        return came;
    }

    private int arrive() {
        int came = 0;
        for (Port[] row : ports) {
            for (Port p : row) {
                p.got = false;
            }
        }
        for (Cable c : cables) {
            for (Iterator<Item> it = c.items.iterator(); it.hasNext();) {
                Item item = it.next();
                if (item.putAt + c.delay != clock) {
                    continue;
                }
                it.remove();
                Port to = ports[1 - item.from][c.at[1 - item.from]];
                if (!item.isFrame()) {
                    hear(to, item);
                } else if (to.stage >= 3) {
                    came++;
                    kept.get(to.end).add(new int[] {to.number, item.conversation, item.value, clock});
                } else {
                    dropped++;
                }
            }
        }
        return came;
    }

    private void hear(Port to, Item note) {
        int[] own = own(to);
        to.partner = note.own.clone();
        boolean known = (note.partner[BITS] & 4) == (own[BITS] & 4);
        for (int f = SYSTEM; f <= NUMBER; f++) {
            known &= note.partner[f] == own[f];
        }
        if (!known) {
            to.partner[BITS] &= ~8;
        }
        to.view = 2;
        to.timer = to.quick ? 3 : 90;
        to.owes |= !Arrays.equals(note.partner, own);
        to.got = true;
        to.came++;
    }

    private void runTimer(Port p) {
        if (p.view == 3 || p.got) {
            return;
        }
        p.timer--;
        if (p.timer == 0 && p.view == 2) {
            p.view = 1;
            p.timer = 3;
            p.partner[BITS] &= 7;
        } else if (p.timer == 0) {
            p.view = 3;
            p.partner = new int[5];
        }
    }

    private void formBundles(int end) {
        boolean strong = (systems[0] <= systems[1]) == (end == 0);
        List<Port> open = new ArrayList<>();
        for (Port p : ports[end]) {
            p.bundle = -1;
            p.chosen = false;
            boolean told = p.partner[SYSTEM] > 0 && p.partner[KEY] > 0 && (p.partner[BITS] & 4) != 0;
            if (lit(p) && p.view != 3 && p.key > 0 && told) {
                open.add(p);
            }
        }
        while (!open.isEmpty()) {
            Port least = open.get(0);
            List<Port> members = new ArrayList<>();
            for (Port p : open) {
                if (Arrays.equals(ties(p), ties(least))) {
                    members.add(p);
                }
            }
            open.removeAll(members);
            members.forEach(p -> p.bundle = least.number);
            Comparator<Port> order = Comparator.comparingInt(p -> strong ? p.priority : p.partner[PRIORITY]);
            order = order.thenComparingInt(p -> strong ? p.number : p.partner[NUMBER]);
            members.sort(order.thenComparingInt(p -> p.number));
            members.stream().limit(limits[end]).forEach(p -> p.chosen = true);
        }
    }

    private static int[] ties(Port p) {
        return new int[] {p.key, p.partner[SYSTEM], p.partner[KEY]};
    }

    private void step(Port p) {
        boolean inStep = (p.partner[BITS] & 8) != 0;
        boolean collects = (p.partner[BITS] & 16) != 0;
        if (!p.chosen || p.stage > 0 && !Arrays.equals(p.asItLeft, ties(p))) {
            p.stage = 0;
        } else if (p.stage == 0) {
            p.stage = 1;
            p.wait = 2;
            p.asItLeft = ties(p);
        } else if (p.stage == 1) {
            p.wait--;
            p.stage = p.wait == 0 ? 2 : 1;
        } else if (p.stage == 2 && inStep) {
            p.stage = 3;
        } else if (p.stage == 3 && inStep && collects) {
            p.stage = 4;
        } else if (p.stage >= 3 && !inStep) {
            p.stage = 2;
        } else if (p.stage == 4 && !collects) {
            p.stage = 3;
        }
    }

    private boolean speak(Port p) {
        if (!p.active && (p.partner[BITS] & 1) == 0) {
            return false;
        }
        int pause = p.view == 2 && (p.partner[BITS] & 2) == 0 ? 30 : 1;
        boolean must = p.lastOwn == null || !Arrays.equals(p.lastOwn, own(p)) || p.owes
            || clock - p.lastClock >= pause;
        if (!must) {
            return false;
        }
        p.owes = false;
        p.lastOwn = own(p);
        p.lastClock = clock;
        p.put++;
        Cable c = cableIn(p.end, p.number);
        if (c.lose[p.end] > 0) {
            c.lose[p.end]--;
            return true;
        }
        Item note = new Item();
        note.from = p.end;
        note.putAt = clock;
        note.own = own(p);
        note.partner = p.partner.clone();
        c.items.add(note);
        return false;
    }

    int give(int end, int bundle, int conversation, int value) {
        must(in(end, 0, 1) && in(conversation, 0, 255));
        List<Port> givers = new ArrayList<>();
        for (Port p : ports[end]) {
            if (p.stage == 4 && p.bundle == bundle) {
                givers.add(p);
            }
        }
        if (givers.isEmpty()) {
            return -1;
        }
        Port p = givers.get(conversation % givers.size());
        Cable c = cableIn(end, p.number);
        if (c.countItems(true, end) >= 200) {
            return -1;
        }
        Item frame = new Item();
        frame.from = end;
        frame.putAt = clock;
        frame.conversation = conversation;
        frame.value = value;
        c.items.add(frame);
        return p.number;
    }

    int came(int end, int i, int what) {
        if (!in(end, 0, 1) || !in(i, 0, Math.min(50, kept.get(end).size()) - 1)) {
            throw new NoSuchElementException();
        }
        List<int[]> row = kept.get(end);
        return in(what, 0, 3) ? row.get(row.size() - 1 - i)[what] : -1;
    }

    int look(int end, int port, int what) {
        if (!in(end, 0, 1) || !in(port, 0, 7)) {
            throw new NoSuchElementException();
        }
        Port p = ports[end][port];
        int at = Arrays.asList(cables).indexOf(cableIn(end, port));
        int[] facts = {p.key, p.priority, own(p)[BITS], p.view, p.timer, p.stage, lit(p) ? p.bundle : -1,
            lit(p) && p.chosen ? 1 : 0, at, p.partner[SYSTEM], p.partner[KEY], p.partner[PRIORITY],
            p.partner[NUMBER], p.partner[BITS], p.put, p.came};
        return in(what, 0, facts.length - 1) ? facts[what] : -1;
    }

    int cable(int cable, int what) {
        if (!in(cable, 0, 7)) {
            throw new NoSuchElementException();
        }
        Cable c = cables[cable];
        boolean is = c.plugged;
        int[] facts = {is ? c.at[0] : -1, is ? c.at[1] : -1, is ? c.delay : -1, is && c.up ? 1 : 0,
            meant().contains(c) ? 1 : 0, c.countItems(true, 0), c.countItems(true, 1),
            c.countItems(false, 0), c.countItems(false, 1)};
        return in(what, 0, facts.length - 1) ? facts[what] : -1;
    }

    List<Cable> meant() {
        int strong = systems[0] <= systems[1] ? 0 : 1;
        List<Cable> agreeing = new ArrayList<>();
        for (Cable c : cables) {
            Port a = ports[0][c.at[0]];
            Port b = ports[1][c.at[1]];
            if (c.plugged && c.up && a.key > 0 && b.key > 0 && (a.active || b.active)) {
                agreeing.add(c);
            }
        }
        Comparator<Cable> order = Comparator.comparingInt(c -> ports[strong][c.at[strong]].priority);
        agreeing.sort(order.thenComparingInt(c -> c.at[strong]));
        List<Cable> list = new ArrayList<>();
        for (Cable c : agreeing) {
            long ahead = list.stream().filter(o -> ports[0][o.at[0]].key == ports[0][c.at[0]].key
                && ports[1][o.at[1]].key == ports[1][c.at[1]].key).count();
            if (ahead < Math.min(limits[0], limits[1])) {
                list.add(c);
            }
        }
        return list;
    }

    int note(int end, int port, int i) {
        if (!in(end, 0, 1) || !in(port, 0, 7) || !in(i, 0, 21)) {
            return -1;
        }
        java.nio.ByteBuffer bytes = java.nio.ByteBuffer.allocate(22);
        for (int[] told : new int[][] {own(ports[end][port]), ports[end][port].partner}) {
            bytes.putInt(told[SYSTEM]).putShort((short) told[KEY]).putShort((short) told[PRIORITY]);
            bytes.putShort((short) told[NUMBER]).put((byte) told[BITS]);
        }
        return bytes.get(i) & 255;
    }

    int count(int what) {
        int[] facts = {clock, quiet, systems[0], systems[1], limits[0], limits[1], kept.get(0).size(),
            kept.get(1).size(), dropped, gone, 0, 0, 0};
        return in(what, 0, facts.length - 1) ? facts[what] : -1;
    }
}

import java.util.NoSuchElementException;

/** Two ENDS whose CABLES are bundled by the NOTES that their PORTS send each other. */
public final class BundlePair {
    public static final int NONE = -1;

    private static final int ENDS = 2;
    private static final int PORTS = 8;
    private static final int CABLES = 8;
    private static final int MAX_SYSTEM = 1000000;
    private static final int MAX_LIMIT = 8;
    private static final int MAX_WORD = 65535;
    private static final int MAX_DELAY = 8;
    private static final int MAX_LOST = 100;
    private static final int MAX_TICKS = 1000;
    private static final int MAX_CONVERSATION = 255;
    private static final int MAX_FRAMES = 200;
    private static final int KEPT = 50;
    private static final int KEPT_FACTS = 4;
    private static final int TOLD_BYTES = 11;
    private static final int SETTLING_TIME = 300;

    private static final int ACTIVE = 1;
    private static final int QUICK = 2;
    private static final int KEYED = 4;
    private static final int IN_STEP = 8;
    private static final int COLLECTS = 16;
    private static final int GIVES = 32;
    private static final int STAGE_BITS = IN_STEP | COLLECTS | GIVES;

    private static final int DARK = 0;
    private static final int OLD = 1;
    private static final int NEW = 2;
    private static final int LONE = 3;

    private static final int APART = 0;
    private static final int WAITS = 1;
    private static final int JOINED = 2;
    private static final int COLLECTING = 3;
    private static final int GIVING = 4;

    private static final int SHORT_TIME = 3;
    private static final int LONG_TIME = 90;
    private static final int SHORT_PAUSE = 1;
    private static final int LONG_PAUSE = 30;
    private static final int WAIT = 2;

    private final End[] ends = new End[ENDS];
    private final Cable[] cables = new Cable[CABLES];
    private int clock;
    private int quiet;
    private int dropped;
    private int cutOff;
    private int unsettled;
    private int uncollected;
    private int overtaken;

    /** What a PORT tells of itself (OWN), or keeps of the other side (PARTNER). */
    private static final class Told {
        int system;
        int key;
        int priority;
        int number;
        int bits;

        boolean has(int bit) {
            return (bits & bit) != 0;
        }

        void clear() {
            system = 0;
            key = 0;
            priority = 0;
            number = 0;
            bits = 0;
        }

        void copyFrom(Told other) {
            system = other.system;
            key = other.key;
            priority = other.priority;
            number = other.number;
            bits = other.bits;
        }

        void setBits(int mask, boolean on) {
            bits = on ? bits | mask : bits & ~mask;
        }

        boolean namesSame(Told other) {
            return system == other.system && key == other.key
                && priority == other.priority && number == other.number;
        }

        boolean isSame(Told other) {
            return namesSame(other) && bits == other.bits;
        }

        int byteAt(int i) {
            if (i < 4) {
                return system >>> (24 - 8 * i) & 255;
            }
            if (i == TOLD_BYTES - 1) {
                return bits;
            }
            int word = i < 6 ? key : i < 8 ? priority : number;
            return (i % 2 == 0 ? word >>> 8 : word) & 255;
        }
    }

    private static final class Note {
        final Told own = new Told();
        final Told partner = new Told();
        int due;
    }

    private static final class Frame {
        int conversation;
        int value;
        int bundle;
        int due;
        /** The giving END's epoch and its number of FRAMES as this one was given. */
        int epoch;
        int serial;
        boolean late;

        boolean mustComeAhead(Frame other) {
            return conversation == other.conversation && bundle == other.bundle
                && epoch == other.epoch && serial < other.serial;
        }
    }

    /**
     * One direction of a CABLE. NOTES and FRAMES wait apart: in a TICK's (a) no NOTE changes what
     * becomes of a FRAME, nor the other way round, so only the order among their own kind counts.
     */
    private static final class Lane {
        /** A PORT puts one NOTE a TICK at most, so no more than DELAY are on their way. */
        final Note[] notes = new Note[MAX_DELAY];
        int firstNote;
        int noteCount;
        /** Filled as FRAMES are first given: few CABLES ever carry as many as there is room for. */
        final Frame[] frames = new Frame[MAX_FRAMES];
        int firstFrame;
        int frameCount;
        int toLose;

        Lane() {
            for (int i = 0; i < MAX_DELAY; i++) {
                notes[i] = new Note();
            }
        }

        void clear() {
            noteCount = 0;
            frameCount = 0;
        }

        void addNote(Port port, int due) {
            if (noteCount >= MAX_DELAY) {
                return;
            }
            Note added = notes[(firstNote + noteCount) % MAX_DELAY];
            added.own.copyFrom(port.own);
            added.partner.copyFrom(port.partner);
            added.due = due;
            noteCount++;
        }

        Note takeDueNote(int clock) {
            if (noteCount == 0 || notes[firstNote].due > clock) {
                return null;
            }
            Note taken = notes[firstNote];
            firstNote = (firstNote + 1) % MAX_DELAY;
            noteCount--;
            return taken;
        }

        boolean isFull() {
            return frameCount >= MAX_FRAMES;
        }

        Frame addFrame() {
            int slot = (firstFrame + frameCount) % MAX_FRAMES;
            Frame added = frames[slot];
            if (added == null) {
                added = new Frame();
                frames[slot] = added;
            }
            frameCount++;
            return added;
        }

        Frame takeDueFrame(int clock) {
            Frame first = frames[firstFrame];
            if (frameCount == 0 || first == null || first.due > clock) {
                return null;
            }
            firstFrame = (firstFrame + 1) % MAX_FRAMES;
            frameCount--;
            return first;
        }

        void markOvertaken(Frame arrived) {
            for (int i = 0; i < frameCount; i++) {
                Frame waiting = frames[(firstFrame + i) % MAX_FRAMES];
                if (waiting != null && waiting.mustComeAhead(arrived)) {
                    waiting.late = true;
                }
            }
        }
    }

    private static final class Cable {
        /** By END; both null while the CABLE is not PLUGGED. */
        final Port[] ports = new Port[ENDS];
        /** By the END from which they lead. */
        final Lane[] lanes = new Lane[ENDS];
        int delay;
        boolean up;
        boolean meant;

        Cable() {
            for (int end = 0; end < ENDS; end++) {
                lanes[end] = new Lane();
            }
        }

        boolean isPlugged() {
            return ports[0] != null && ports[1] != null;
        }

        boolean agrees() {
            return up && isPlugged()
                && ports[0].own.has(KEYED) && ports[1].own.has(KEYED)
                && (ports[0].own.has(ACTIVE) || ports[1].own.has(ACTIVE));
        }

        boolean isInGroupOf(Cable other) {
            return isPlugged() && other.isPlugged()
                && ports[0].own.key == other.ports[0].own.key
                && ports[1].own.key == other.ports[1].own.key;
        }

        boolean isSettled() {
            return !isPlugged()
                || (ports[0].stage == GIVING) == meant && (ports[1].stage == GIVING) == meant;
        }
    }

    private static final class Port {
        final Told own = new Told();
        final Told partner = new Told();
        int cable = NONE;
        int view;
        int timer;
        int stage;
        int wait;
        /** What bound the PORT to its BUNDLE as it left STAGE 0. */
        int boundKey;
        int boundPartnerSystem;
        int boundPartnerKey;
        int bundle = NONE;
        boolean chosen;
        boolean heard;
        boolean owes;
        /** The last NOTE's OWN and CLOCK since the PORT became LIT; NONE: there was no NOTE. */
        final Told lastOwn = new Told();
        int lastClock = NONE;
        int notesPut;
        int notesCame;

        boolean isLit() {
            return view != DARK;
        }

        void setStage(int next) {
            stage = next;
            own.setBits(IN_STEP, next >= JOINED);
            own.setBits(COLLECTS, next >= COLLECTING);
            own.setBits(GIVES, next >= GIVING);
        }

        void becomeLit() {
            view = OLD;
            timer = SHORT_TIME;
            partner.setBits(STAGE_BITS, false);
            lastClock = NONE;
        }

        void becomeDark() {
            view = DARK;
            timer = 0;
            partner.clear();
        }

        void hear(Note heardNote) {
            partner.copyFrom(heardNote.own);
            boolean known = heardNote.partner.namesSame(own)
                && heardNote.partner.has(KEYED) == own.has(KEYED);
            if (!known) {
                partner.setBits(IN_STEP, false);
            }
            view = NEW;
            timer = own.has(QUICK) ? SHORT_TIME : LONG_TIME;
            if (!heardNote.partner.isSame(own)) {
                owes = true;
            }
            heard = true;
            notesCame++;
        }

        void age() {
            boolean renewed = heard;
            heard = false;
            if (renewed || view != OLD && view != NEW) {
                return;
            }
            timer--;
            if (timer > 0) {
                return;
            }
            if (view == NEW) {
                view = OLD;
                timer = SHORT_TIME;
                partner.setBits(STAGE_BITS, false);
            } else {
                view = LONE;
                partner.clear();
            }
        }

        boolean fits() {
            return (view == OLD || view == NEW) && own.key > 0
                && partner.system > 0 && partner.key > 0 && partner.has(KEYED);
        }

        boolean isLike(Port other) {
            return own.key == other.own.key && partner.system == other.partner.system
                && partner.key == other.partner.key;
        }

        boolean isStillBound() {
            return own.key == boundKey && partner.system == boundPartnerSystem
                && partner.key == boundPartnerKey;
        }

        void bind() {
            boundKey = own.key;
            boundPartnerSystem = partner.system;
            boundPartnerKey = partner.key;
            wait = WAIT;
        }

        /** The STAGE behind this TICK's step. */
        int step() {
            if (!chosen || stage != APART && !isStillBound()) {
                return APART;
            }
            if (stage == APART) {
                bind();
                return WAITS;
            }
            if (stage == WAITS) {
                wait--;
                return wait > 0 ? WAITS : JOINED;
            }
            if (!partner.has(IN_STEP)) {
                return JOINED;
            }
            if (stage == JOINED) {
                return COLLECTING;
            }
            return partner.has(COLLECTS) ? GIVING : COLLECTING;
        }

        boolean mustTell(int clock) {
            if (!isLit() || !own.has(ACTIVE) && !partner.has(ACTIVE)) {
                return false;
            }
            if (owes || lastClock == NONE || !lastOwn.isSame(own)) {
                return true;
            }
            boolean relaxed = view == NEW && !partner.has(QUICK);
            return clock - lastClock >= (relaxed ? LONG_PAUSE : SHORT_PAUSE);
        }

        void rememberTelling(int clock) {
            lastOwn.copyFrom(own);
            lastClock = clock;
            owes = false;
            notesPut++;
        }

        boolean gives(int toBundle) {
            return stage == GIVING && bundle == toBundle;
        }

        /** byOwn: whether the PORT's own END is the STRONGER one. */
        boolean isAheadOf(Port other, boolean byOwn) {
            Told mine = byOwn ? own : partner;
            Told its = byOwn ? other.own : other.partner;
            if (mine.priority != its.priority) {
                return mine.priority < its.priority;
            }
            if (mine.number != its.number) {
                return mine.number < its.number;
            }
            return own.number < other.own.number;
        }
    }

    private static final class End {
        final Port[] ports = new Port[PORTS];
        int system;
        int limit = MAX_LIMIT;
        int arrived;
        /** A ring of the latest FRAMES' facts, KEPT_FACTS in a row. */
        final int[] kept = new int[KEPT * KEPT_FACTS];
        int keptCount;
        int nextKept;
        int given;
        /** One more whenever a PORT comes to STAGE 4, leaves it or changes its BUNDLE in it. */
        int epoch;

        End(int system) {
            this.system = system;
            for (int i = 0; i < PORTS; i++) {
                Port made = new Port();
                made.own.system = system;
                made.own.priority = 100;
                made.own.number = i;
                ports[i] = made;
            }
        }

        void rename(int next) {
            system = next;
            for (int i = 0; i < PORTS; i++) {
                ports[i].own.system = next;
            }
        }

        void keep(Frame frame, int atPort, int clock) {
            int row = nextKept * KEPT_FACTS;
            kept[row] = atPort;
            kept[row + 1] = frame.conversation;
            kept[row + 2] = frame.value;
            kept[row + 3] = clock;
            nextKept = (nextKept + 1) % KEPT;
            keptCount = Math.min(keptCount + 1, KEPT);
            arrived++;
        }

        void moveTo(Port port, int stage) {
            if ((port.stage == GIVING) != (stage == GIVING)) {
                epoch++;
            }
            port.setStage(stage);
        }

        void formBundles(boolean stronger) {
            for (int i = 0; i < PORTS; i++) {
                Port port = ports[i];
                int bundle = bundleOf(i);
                if (port.stage == GIVING && port.bundle != bundle) {
                    epoch++;
                }
                port.bundle = bundle;
            }
            for (int i = 0; i < PORTS; i++) {
                Port port = ports[i];
                port.chosen = port.bundle != NONE && countAhead(port, stronger) < limit;
            }
        }

        /** Counts on the BUNDLES of all lesser PORTS being known already. */
        int bundleOf(int number) {
            Port port = ports[number];
            if (!port.fits()) {
                return NONE;
            }
            for (int i = 0; i < number; i++) {
                if (ports[i].bundle == i && ports[i].isLike(port)) {
                    return i;
                }
            }
            return number;
        }

        int countAhead(Port port, boolean stronger) {
            int ahead = 0;
            for (int i = 0; i < PORTS; i++) {
                if (ports[i].bundle == port.bundle && ports[i].isAheadOf(port, stronger)) {
                    ahead++;
                }
            }
            return ahead;
        }

        /** The PORT to which a FRAME goes, or null. */
        Port giverOf(int bundle, int conversation) {
            int givers = 0;
            for (int i = 0; i < PORTS; i++) {
                if (ports[i].gives(bundle)) {
                    givers++;
                }
            }
            if (givers == 0) {
                return null;
            }
            int left = conversation % givers;
            for (int i = 0; i < PORTS; i++) {
                if (ports[i].gives(bundle)) {
                    if (left == 0) {
                        return ports[i];
                    }
                    left--;
                }
            }
            return null;
        }
    }

    public BundlePair() {
        ends[0] = new End(10);
        ends[1] = new End(20);
        for (int i = 0; i < CABLES; i++) {
            cables[i] = new Cable();
        }
    }

    public int system(int end, int system) throws IllegalArgumentException, IllegalStateException {
        if (!isEnd(end) || system < 1 || system > MAX_SYSTEM) {
            throw new IllegalArgumentException("no such end, or system is not 1 to 1000000");
        }
        if (ends[1 - end].system == system) {
            throw new IllegalStateException("the other end has this system");
        }
        int before = ends[end].system;
        ends[end].rename(system);
        noteChange();
        return before;
    }

    public int limit(int end, int limit) throws IllegalArgumentException {
        if (!isEnd(end) || limit < 1 || limit > MAX_LIMIT) {
            throw new IllegalArgumentException("no such end, or limit is not 1 to 8");
        }
        int before = ends[end].limit;
        ends[end].limit = limit;
        noteChange();
        return before;
    }

    public void port(int end, int port, int key, int priority) throws IllegalArgumentException {
        if (!isEnd(end) || !isPort(port) || !isWord(key) || !isWord(priority)) {
            throw new IllegalArgumentException("no such end or port, or not 0 to 65535");
        }
        Told own = ends[end].ports[port].own;
        own.key = key;
        own.priority = priority;
        own.setBits(KEYED, key > 0);
        noteChange();
    }

    public void manner(int end, int port, boolean active, boolean quick) throws IllegalArgumentException {
        if (!isEnd(end) || !isPort(port)) {
            throw new IllegalArgumentException("no such end or port");
        }
        Told own = ends[end].ports[port].own;
        own.setBits(ACTIVE, active);
        own.setBits(QUICK, quick);
        noteChange();
    }

    public void plug(int cable, int a, int b, int delay) throws IllegalArgumentException, IllegalStateException {
        if (!isCable(cable) || !isPort(a) || !isPort(b) || delay < 1 || delay > MAX_DELAY) {
            throw new IllegalArgumentException("no such cable or port, or delay is not 1 to 8");
        }
        if (isTaken(ends[0].ports[a], cable) || isTaken(ends[1].ports[b], cable)) {
            throw new IllegalStateException("another cable is in one of these ports");
        }
        takeOut(cables[cable]);
        putIn(cable, 0, ends[0].ports[a]);
        putIn(cable, 1, ends[1].ports[b]);
        cables[cable].delay = delay;
        switchOn(cables[cable]);
        noteChange();
    }

    public void pull(int cable) throws IllegalArgumentException, IllegalStateException {
        if (!isCable(cable)) {
            throw new IllegalArgumentException("no such cable");
        }
        if (!cables[cable].isPlugged()) {
            throw new IllegalStateException("the cable is not plugged");
        }
        takeOut(cables[cable]);
        noteChange();
    }

    public void light(int cable, boolean up) throws IllegalArgumentException, IllegalStateException {
        if (!isCable(cable)) {
            throw new IllegalArgumentException("no such cable");
        }
        Cable changed = cables[cable];
        if (!changed.isPlugged() || changed.up == up) {
            throw new IllegalStateException("the cable is not plugged, or is so already");
        }
        if (up) {
            switchOn(changed);
        } else {
            switchOff(changed);
        }
        noteChange();
    }

    public void lose(int end, int cable, int n) throws IllegalArgumentException {
        if (!isEnd(end) || !isCable(cable) || n < 0 || n > MAX_LOST) {
            throw new IllegalArgumentException("no such end or cable, or n is not 0 to 100");
        }
        cables[cable].lanes[end].toLose = n;
        noteChange();
    }

    public int tick(int n) throws IllegalArgumentException {
        if (n < 1 || n > MAX_TICKS) {
            throw new IllegalArgumentException("n is not 1 to 1000");
        }
        int before = ends[0].arrived + ends[1].arrived;
        for (int i = 0; i < n; i++) {
            runTick();
        }
        return ends[0].arrived + ends[1].arrived - before;
    }

    public int give(int end, int bundle, int conversation, int value) throws IllegalArgumentException {
        if (!isEnd(end) || conversation < 0 || conversation > MAX_CONVERSATION) {
            throw new IllegalArgumentException("no such end, or conversation is not 0 to 255");
        }
        Port giver = ends[end].giverOf(bundle, conversation);
        if (giver == null || !isCable(giver.cable)) {
            return NONE;
        }
        Cable taken = cables[giver.cable];
        Lane lane = taken.lanes[end];
        if (lane.isFull()) {
            return NONE;
        }
        Frame frame = lane.addFrame();
        frame.conversation = conversation;
        frame.value = value;
        frame.bundle = bundle;
        frame.due = clock + taken.delay;
        frame.epoch = ends[end].epoch;
        frame.serial = ends[end].given++;
        frame.late = false;
        if (!giver.partner.has(COLLECTS)) {
            uncollected++;
        }
        return giver.own.number;
    }

    public int came(int end, int i, int what) throws NoSuchElementException {
        if (!isEnd(end) || i < 0 || i >= ends[end].keptCount) {
            throw new NoSuchElementException("no such end or frame");
        }
        if (what < 0 || what >= KEPT_FACTS) {
            return NONE;
        }
        int slot = Math.floorMod(ends[end].nextKept - 1 - i, KEPT);
        return ends[end].kept[slot * KEPT_FACTS + what];
    }

    public int look(int end, int port, int what) throws NoSuchElementException {
        if (!isEnd(end) || !isPort(port)) {
            throw new NoSuchElementException("no such end or port");
        }
        Port seen = ends[end].ports[port];
        switch (what) {
            case 0: return seen.own.key;
            case 1: return seen.own.priority;
            case 2: return seen.own.bits;
            case 3: return seen.view;
            case 4: return seen.timer;
            case 5: return seen.stage;
            case 6: return seen.isLit() ? seen.bundle : NONE;
            case 7: return seen.isLit() && seen.chosen ? 1 : 0;
            case 8: return seen.cable;
            case 9: return seen.partner.system;
            case 10: return seen.partner.key;
            case 11: return seen.partner.priority;
            case 12: return seen.partner.number;
            case 13: return seen.partner.bits;
            case 14: return seen.notesPut;
            case 15: return seen.notesCame;
            default: return NONE;
        }
    }

    public int cable(int cable, int what) throws NoSuchElementException {
        if (!isCable(cable)) {
            throw new NoSuchElementException("no such cable");
        }
        Cable seen = cables[cable];
        switch (what) {
            case 0: return seen.isPlugged() ? seen.ports[0].own.number : NONE;
            case 1: return seen.isPlugged() ? seen.ports[1].own.number : NONE;
            case 2: return seen.isPlugged() ? seen.delay : NONE;
            case 3: return seen.up ? 1 : 0;
            case 4: return seen.meant ? 1 : 0;
            case 5: return seen.lanes[0].frameCount;
            case 6: return seen.lanes[1].frameCount;
            case 7: return seen.lanes[0].noteCount;
            case 8: return seen.lanes[1].noteCount;
            default: return NONE;
        }
    }

    public int note(int end, int port, int i) {
        if (!isEnd(end) || !isPort(port) || i < 0 || i >= 2 * TOLD_BYTES) {
            return NONE;
        }
        Port teller = ends[end].ports[port];
        return i < TOLD_BYTES ? teller.own.byteAt(i) : teller.partner.byteAt(i - TOLD_BYTES);
    }

    public int count(int what) {
        switch (what) {
            case 0: return clock;
            case 1: return quiet;
            case 2: return ends[0].system;
            case 3: return ends[1].system;
            case 4: return ends[0].limit;
            case 5: return ends[1].limit;
            case 6: return ends[0].arrived;
            case 7: return ends[1].arrived;
            case 8: return dropped;
            case 9: return cutOff;
            case 10: return unsettled;
            case 11: return uncollected;
            case 12: return overtaken;
            default: return NONE;
        }
    }

    private static boolean isEnd(int end) {
        return end >= 0 && end < ENDS;
    }

    private static boolean isPort(int port) {
        return port >= 0 && port < PORTS;
    }

    private static boolean isCable(int cable) {
        return cable >= 0 && cable < CABLES;
    }

    private static boolean isWord(int word) {
        return word >= 0 && word <= MAX_WORD;
    }

    private static boolean isTaken(Port port, int cable) {
        return port.cable != NONE && port.cable != cable;
    }

    private int strongerEnd() {
        return ends[0].system <= ends[1].system ? 0 : 1;
    }

    /** MEANT hangs on nothing that a TICK changes, so it is found here, once for many TICKS. */
    private void noteChange() {
        quiet = 0;
        int meantOfGroup = Math.min(ends[0].limit, ends[1].limit);
        for (int i = 0; i < CABLES; i++) {
            cables[i].meant = cables[i].agrees() && countMeantAhead(cables[i]) < meantOfGroup;
        }
    }

    private int countMeantAhead(Cable cable) {
        int stronger = strongerEnd();
        int ahead = 0;
        for (int i = 0; i < CABLES; i++) {
            Cable other = cables[i];
            if (other.agrees() && other.isInGroupOf(cable)
                && other.ports[stronger].isAheadOf(cable.ports[stronger], true)) {
                ahead++;
            }
        }
        return ahead;
    }

    private void putIn(int cable, int end, Port port) {
        cables[cable].ports[end] = port;
        port.cable = cable;
    }

    private void takeOut(Cable cable) {
        if (!cable.isPlugged()) {
            return;
        }
        switchOff(cable);
        for (int end = 0; end < ENDS; end++) {
            cable.ports[end].cable = NONE;
            cable.ports[end] = null;
        }
    }

    private void switchOn(Cable cable) {
        cable.up = true;
        for (int end = 0; end < ENDS; end++) {
            cable.ports[end].becomeLit();
        }
    }

    private void switchOff(Cable cable) {
        cable.up = false;
        for (int end = 0; end < ENDS; end++) {
            cutOff += cable.lanes[end].frameCount;
            cable.lanes[end].clear();
            ends[end].moveTo(cable.ports[end], APART);
            cable.ports[end].becomeDark();
        }
    }

    private void runTick() {
        bringAll();
        ageAll();
        int stronger = strongerEnd();
        for (int end = 0; end < ENDS; end++) {
            ends[end].formBundles(end == stronger);
        }
        stepAll();
        boolean lost = tellAll();
        clock++;
        quiet = lost ? 0 : quiet + 1;
        if (quiet >= SETTLING_TIME && !isSettled()) {
            unsettled++;
        }
    }

    private void bringAll() {
        for (int i = 0; i < CABLES; i++) {
            Cable cable = cables[i];
            if (cable.up && cable.isPlugged()) {
                for (int from = 0; from < ENDS; from++) {
                    bringNotes(cable.lanes[from], cable.ports[1 - from]);
                    bringFrames(cable.lanes[from], cable.ports[1 - from], from);
                }
            }
        }
    }

    private void bringNotes(Lane lane, Port to) {
        for (int i = 0; i < MAX_DELAY; i++) {
            Note brought = lane.takeDueNote(clock);
            if (brought == null) {
                return;
            }
            to.hear(brought);
        }
    }

    private void bringFrames(Lane lane, Port to, int from) {
        for (int i = 0; i < MAX_FRAMES; i++) {
            Frame brought = lane.takeDueFrame(clock);
            if (brought == null) {
                return;
            }
            if (to.own.has(COLLECTS)) {
                receive(brought, to, from);
            } else {
                dropped++;
            }
        }
    }

    private void receive(Frame frame, Port to, int from) {
        ends[1 - from].keep(frame, to.own.number, clock);
        if (frame.late) {
            overtaken++;
        }
        for (int i = 0; i < CABLES; i++) {
            cables[i].lanes[from].markOvertaken(frame);
        }
    }

    private void ageAll() {
        for (int end = 0; end < ENDS; end++) {
            for (int i = 0; i < PORTS; i++) {
                ends[end].ports[i].age();
            }
        }
    }

    private void stepAll() {
        for (int end = 0; end < ENDS; end++) {
            for (int i = 0; i < PORTS; i++) {
                Port port = ends[end].ports[i];
                if (port.isLit()) {
                    ends[end].moveTo(port, port.step());
                }
            }
        }
    }

    /** Whether a NOTE was LOST. */
    private boolean tellAll() {
        boolean lost = false;
        for (int end = 0; end < ENDS; end++) {
            for (int i = 0; i < PORTS; i++) {
                Port port = ends[end].ports[i];
                if (port.mustTell(clock) && !tellFrom(end, port)) {
                    lost = true;
                }
            }
        }
        return lost;
    }

    /** Whether the NOTE was put on the CABLE, and not LOST. */
    private boolean tellFrom(int end, Port port) {
        if (!isCable(port.cable)) {
            return true;
        }
        Cable cable = cables[port.cable];
        Lane lane = cable.lanes[end];
        port.rememberTelling(clock);
        if (lane.toLose > 0) {
            lane.toLose--;
            return false;
        }
        lane.addNote(port, clock + cable.delay);
        return true;
    }

    private boolean isSettled() {
        for (int i = 0; i < CABLES; i++) {
            if (!cables[i].isSettled()) {
                return false;
            }
        }
        return true;
    }
}

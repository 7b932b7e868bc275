import java.util.Arrays;

/** A ring of stations and the one thing on its way: a token with a level and a wish, or a frame. */
public final class RankedRing {
    public static final int NONE = -1;

    private static final int MOST_STATIONS = 8;
    private static final int MOST_WAITING = 6;
    private static final int SLOTS = 48;
    private static final int RANKS = 8;
    private static final int ADDRESSES = 100;
    private static final int CAUSES = 3;
    // A couple's NEW is above its OLD, and the next one's OLD is no lower: with levels 0 to 7 there are never more.
    private static final int MOST_RAISES = 8;
    private static final int MOST_MARKS = 4;
    private static final int TAPE_BYTES = 500;
    private static final int FED_BYTES = 20;
    private static final int MOST_TICKS = 500;
    private static final int MOST_SEED = 9999;
    private static final int MOST_LOAD = 16;
    private static final int PAPER_TICKS = 3000;
    private static final int DRAW_TIMES = 3877;
    private static final int DRAW_MORE = 29573;
    private static final int DRAW_RANGE = 139968;

    private static final int FINE = 0;
    private static final int BAD_NUMBER = 1;
    private static final int NO_STATION = 2;
    private static final int TOO_MANY = 3;
    private static final int IS_SO = 4;
    private static final int IS_NONE = 5;
    private static final int NOT_ON_ITS_WAY = 6;
    private static final int NEVER = 7;
    private static final int TAKEN = 8;
    private static final int FAULTY = 9;

    private static final int NOTHING = 0;
    private static final int TOKEN = 1;
    private static final int FRAME = 2;

    private static final int CLAIM = 1;
    private static final int BEACON = 2;

    // What is counted; GOT to BEACONS stand as been() tells them.
    private static final int COUNTS = 10;
    private static final int GOT = 0;
    private static final int MISSED = 1;
    private static final int LOST = 2;
    private static final int PURGES = 3;
    private static final int CLAIMS = 4;
    private static final int BEACONS = 5;
    private static final int GREATEST_LEVEL = 6;
    private static final int REFUSED = 7;
    private static final int AGES = 8;
    private static final int GREATEST_AGE = 9;

    // The kinds of events are GOT to BEACONS, and two that are not counted.
    private static final int FELL_OFF = 6;
    private static final int CROWNED = 7;
    private static final int EVENTS = 24;
    private static final int EVENT_WIDTH = 3;
    private static final int GOTS = 16;
    private static final int GOT_WIDTH = 6;

    // What ticks on paper go by for.
    private static final int TILL_QUIET = 0;
    private static final int TILL_GOT = 1;
    private static final int TILL_LOWERED = 2;
    private static final int TILL_TOKEN = 3;
    private static final int TILL_PURGE = 4;
    private static final int TILL_FALL = 5;

    private final Tape tape;
    private final Ring ring;
    private final Ring scratch;
    private final Paper paper;
    private final Reader reader;
    private final Ring[] markedRings;
    private final Tape[] markedTapes;
    private int markCount;
    private int status;

    public RankedRing() {
        tape = new Tape();
        ring = new Ring();
        scratch = new Ring();
        paper = new Paper(ring, scratch);
        reader = new Reader(tape, scratch);
        markedRings = new Ring[MOST_MARKS];
        markedTapes = new Tape[MOST_MARKS];
        for (int i = 0; i < MOST_MARKS; i++) {
            markedRings[i] = new Ring();
            markedTapes[i] = new Tape();
        }
        markCount = 0;
        status = FINE;
    }

    // ---- the tape

    public int status() {
        return status;
    }

    public int feed(int a, int b, int c, int d, int e) {
        if (tape.length + FED_BYTES > TAPE_BYTES) {
            return NONE;
        }
        tape.append(a);
        tape.append(b);
        tape.append(c);
        tape.append(d);
        tape.append(e);
        return tape.length;
    }

    public int load(int n) {
        if (n < 0 || n > tape.length) {
            return fail(BAD_NUMBER);
        }
        boolean taken = reader.readText(n);
        tape.length = 0;
        tape.faultKind = reader.faultKind;
        tape.faultPlace = reader.faultPlace;
        if (!taken) {
            return fail(FAULTY);
        }
        ring.copyFrom(scratch);
        return give(ring.stations.count);
    }

    public int fault(int what) {
        if (what == 0) {
            return tape.faultKind;
        }
        return what == 1 ? tape.faultPlace : NONE;
    }

    // ---- what there is

    public int many(int what) {
        Stations stations = ring.stations;
        switch (what) {
            case 0:
                return give(stations.count);
            case 1:
                return give(stations.onBits());
            case 2:
                return give(stations.chief);
            case 3:
                return give(ring.queues.total());
            case 4:
                return give(ring.framesEver);
            case 5:
                return give(ring.ticks);
            case 6:
                return give(ring.way.kind == NOTHING ? ring.silence.ticks : NONE);
            case 7:
                return give(markCount);
            case 8:
                return give(stations.breakCounts() ? 1 : 0);
            case 9:
                return give(stations.breakBehind);
            case 10:
                return give(stations.breakCause);
            default:
                return fail(BAD_NUMBER);
        }
    }

    public int station(int station, int what) {
        if (what < 0 || what > 9) {
            return fail(BAD_NUMBER);
        }
        if (!ring.stations.exists(station)) {
            return fail(NO_STATION);
        }
        return give(ring.tellOf(station, what));
    }

    public int waits(int station, int i, int what) {
        if (i < 0 || what < 0 || what > 2) {
            return fail(BAD_NUMBER);
        }
        if (!ring.stations.exists(station)) {
            return fail(NO_STATION);
        }
        if (i >= ring.queues.sizeOf(station)) {
            return fail(IS_NONE);
        }
        int slot = ring.queues.slotAt(station, i);
        if (what == 0) {
            return give(ring.queues.numberIn(slot));
        }
        return give(what == 1 ? ring.queues.toIn(slot) : ring.queues.rankIn(slot));
    }

    public int way(int what) {
        if (what < 0 || what > 9) {
            return fail(BAD_NUMBER);
        }
        int kind = ring.way.kind;
        if (what >= 1 && kind == NOTHING || what >= 5 && kind != FRAME) {
            return fail(NOT_ON_ITS_WAY);
        }
        return give(ring.way.tell(what));
    }

    public int beacon(int what) {
        if (what < 0 || what > 2) {
            return fail(BAD_NUMBER);
        }
        Silence silence = ring.silence;
        if (what == 0) {
            return give(silence.sign);
        }
        if (silence.sign != BEACON) {
            return fail(IS_NONE);
        }
        return give(what == 1 ? silence.tail : silence.head);
    }

    public int been(int what) {
        if (what < 0 || what >= COUNTS) {
            return fail(BAD_NUMBER);
        }
        return give(ring.book.counted(what));
    }

    public int got(int i, int what) {
        if (i < 0 || i >= GOTS || what < 0 || what >= GOT_WIDTH) {
            return fail(BAD_NUMBER);
        }
        if (i >= ring.book.counted(GOT)) {
            return fail(IS_NONE);
        }
        return give(ring.book.gotAt(i, what));
    }

    public int raise(int station, int i, int what) {
        if (i < 0 || what < 0 || what > 1) {
            return fail(BAD_NUMBER);
        }
        if (!ring.stations.exists(station)) {
            return fail(NO_STATION);
        }
        if (i >= ring.raises.depthOf(station)) {
            return fail(IS_NONE);
        }
        return give(what == 0 ? ring.raises.oldAt(station, i) : ring.raises.newAt(station, i));
    }

    public int event(int i, int what) {
        if (i < 0 || i >= EVENTS || what < 0 || what >= EVENT_WIDTH) {
            return fail(BAD_NUMBER);
        }
        if (i >= ring.book.eventCount) {
            return fail(IS_NONE);
        }
        return give(ring.book.eventAt(i, what));
    }

    public int ranks(int rank, int what) {
        if (rank < 0 || rank >= RANKS || what < 0 || what > 2) {
            return fail(BAD_NUMBER);
        }
        if (what == 0) {
            return give(ring.queues.totalOf(rank));
        }
        return give(what == 1 ? ring.book.gotOf(rank) : ring.book.agesOf(rank));
    }

    public int hops(int from, int to) {
        Stations stations = ring.stations;
        if (!stations.exists(from) || !stations.exists(to)) {
            return fail(NO_STATION);
        }
        if (stations.breakBetween(from, to)) {
            return fail(TOO_MANY);
        }
        if (!stations.isOn(to)) {
            return fail(IS_NONE);
        }
        return give(stations.stepsBetween(from, to));
    }

    public int heir() {
        int greatest = ring.stations.greatestOn();
        return greatest == NONE ? fail(IS_NONE) : give(greatest);
    }

    // ---- what is done

    public int add(int address) {
        if (address < 0 || address >= ADDRESSES) {
            return fail(BAD_NUMBER);
        }
        if (ring.stations.count >= MOST_STATIONS) {
            return fail(TOO_MANY);
        }
        if (ring.stations.hasAddress(address)) {
            return fail(TAKEN);
        }
        ring.stations.append(address);
        ring.startSilence();
        return give(ring.stations.count - 1);
    }

    public int send(int from, int to, int rank) {
        if (rank < 0 || rank >= RANKS) {
            return fail(BAD_NUMBER);
        }
        if (!ring.stations.exists(from) || !ring.stations.exists(to)) {
            return fail(NO_STATION);
        }
        if (ring.queues.isFull(from)) {
            return fail(TOO_MANY);
        }
        if (from == to) {
            return fail(TAKEN);
        }
        return give(ring.newFrame(from, to, rank));
    }

    public int take(int number) {
        if (number < 0) {
            return fail(BAD_NUMBER);
        }
        int slot = ring.queues.slotOf(number);
        if (slot == NONE) {
            return fail(IS_NONE);
        }
        ring.queues.removeSlot(slot);
        return give(slot / MOST_WAITING);
    }

    public int shed(int station, int rank) {
        if (rank < 0 || rank > RANKS) {
            return fail(BAD_NUMBER);
        }
        if (!ring.stations.exists(station)) {
            return fail(NO_STATION);
        }
        return give(ring.queues.removeBelow(station, rank));
    }

    public boolean off(int station) {
        if (!ring.stations.exists(station)) {
            return refuse(NO_STATION);
        }
        if (!ring.stations.isOn(station)) {
            return refuse(IS_SO);
        }
        ring.switchOff(station);
        ring.startSilence();
        return succeed();
    }

    public boolean on(int station) {
        if (!ring.stations.exists(station)) {
            return refuse(NO_STATION);
        }
        if (ring.stations.isOn(station)) {
            return refuse(IS_SO);
        }
        ring.stations.switchOn(station);
        ring.startSilence();
        return succeed();
    }

    public boolean monitor(int station) {
        if (!ring.stations.exists(station)) {
            return refuse(NO_STATION);
        }
        if (ring.stations.chief == station) {
            return refuse(IS_SO);
        }
        ring.stations.chief = station;
        return succeed();
    }

    public boolean lose() {
        if (ring.way.kind == NOTHING) {
            return refuse(NOT_ON_ITS_WAY);
        }
        ring.dropIt();
        return succeed();
    }

    public boolean snap(int station, int cause) {
        if (cause < 0 || cause >= CAUSES) {
            return refuse(BAD_NUMBER);
        }
        if (!ring.stations.exists(station)) {
            return refuse(NO_STATION);
        }
        if (ring.stations.breakBehind != NONE) {
            return refuse(TOO_MANY);
        }
        ring.stations.setBreak(station, cause);
        ring.startSilence();
        return succeed();
    }

    public boolean mend() {
        if (ring.stations.breakBehind == NONE) {
            return refuse(IS_NONE);
        }
        ring.stations.setBreak(NONE, NONE);
        ring.startSilence();
        return succeed();
    }

    public int tick(int many) {
        if (many < 1 || many > MOST_TICKS) {
            return fail(BAD_NUMBER);
        }
        for (int i = 0; i < many; i++) {
            ring.passTick(false);
        }
        return give(ring.ticks);
    }

    public int run(int ticks, int seed, int load) {
        if (ticks < 1 || ticks > MOST_TICKS || seed < 0 || seed > MOST_SEED || load < 0 || load > MOST_LOAD) {
            return fail(BAD_NUMBER);
        }
        int gotAhead = ring.book.counted(GOT);
        int draw = seed;
        for (int i = 0; i < ticks; i++) {
            draw = ring.drawFrame(draw, load);
            ring.passTick(false);
        }
        return give(ring.book.counted(GOT) - gotAhead);
    }

    public int notice() {
        if (ring.stations.breakCounts()) {
            return fail(TOO_MANY);
        }
        if (!ring.stations.chiefIsOn()) {
            return fail(IS_NONE);
        }
        if (ring.way.kind != TOKEN) {
            return fail(NOT_ON_ITS_WAY);
        }
        return give(ring.stations.tellNeighbours());
    }

    public int stale() {
        return give(ring.stations.staleBits());
    }

    public int mark() {
        if (markCount < 0 || markCount >= MOST_MARKS) {
            return fail(TOO_MANY);
        }
        markedRings[markCount].copyFrom(ring);
        markedTapes[markCount].copyFrom(tape);
        markCount++;
        return give(markCount);
    }

    public int back() {
        if (markCount < 1 || markCount > MOST_MARKS) {
            return fail(IS_NONE);
        }
        markCount--;
        ring.copyFrom(markedRings[markCount]);
        tape.copyFrom(markedTapes[markCount]);
        return give(markCount);
    }

    // ---- on paper

    public int quiet(boolean plain) {
        return giveReached(paper.ticksTill(TILL_QUIET, NONE, plain));
    }

    public int when(int number, boolean plain) {
        if (number < 0) {
            return fail(BAD_NUMBER);
        }
        if (!ring.hasFrame(number)) {
            return fail(IS_NONE);
        }
        return giveReached(paper.ticksTill(TILL_GOT, number, plain));
    }

    public int next(int i, boolean plain) {
        if (i < 0) {
            return fail(BAD_NUMBER);
        }
        return giveReached(paper.numberGot(i, plain));
    }

    public int peak() {
        return giveReached(paper.greatestLevel());
    }

    public int lowered() {
        return giveReached(paper.ticksTill(TILL_LOWERED, NONE, false));
    }

    public int healed() {
        return giveReached(paper.ticksTill(TILL_TOKEN, NONE, false));
    }

    public int purged() {
        return giveReached(paper.ticksTill(TILL_PURGE, NONE, false));
    }

    public int blamed() {
        int ticks = paper.ticksTill(TILL_FALL, NONE, false);
        return giveReached(ticks == NONE ? NONE : scratch.fellNow);
    }

    public int gain() {
        paper.noteGot(false);
        paper.noteGot(true);
        return give(paper.ticksGained());
    }

    // ---- how a call ends

    private int give(int answer) {
        status = FINE;
        return answer;
    }

    private int giveReached(int answer) {
        status = answer == NONE ? NEVER : FINE;
        return answer;
    }

    private int fail(int reason) {
        status = reason;
        return NONE;
    }

    private boolean refuse(int reason) {
        status = reason;
        return false;
    }

    private boolean succeed() {
        status = FINE;
        return true;
    }

    /** The bytes that were fed, and what the latest text that was read from them had for a fault. */
    private static final class Tape {
        final byte[] bytes = new byte[TAPE_BYTES];
        int length = 0;
        int faultKind = NONE;
        int faultPlace = NONE;

        void copyFrom(Tape other) {
            System.arraycopy(other.bytes, 0, bytes, 0, TAPE_BYTES);
            length = other.length;
            faultKind = other.faultKind;
            faultPlace = other.faultPlace;
        }

        void append(int four) {
            for (int shift = 24; shift >= 0; shift -= 8) {
                if (length >= 0 && length < TAPE_BYTES) {
                    bytes[length] = (byte) (four >> shift);
                    length++;
                }
            }
        }

        int byteAt(int place) {
            return place >= 0 && place < TAPE_BYTES ? bytes[place] & 255 : 0;
        }
    }

    /** The stations as they stand in the ring, their monitor (the chief), and the break among them. */
    private static final class Stations {
        final int[] addresses = new int[MOST_STATIONS];
        final boolean[] alive = new boolean[MOST_STATIONS];
        final int[] known = new int[MOST_STATIONS];
        final int[] gotFrom = new int[MOST_STATIONS];
        final int[] gotTo = new int[MOST_STATIONS];
        int count = 0;
        int chief = NONE;
        int breakBehind = NONE;
        int breakCause = NONE;

        void clear() {
            count = 0;
            chief = NONE;
            setBreak(NONE, NONE);
        }

        void copyFrom(Stations other) {
            System.arraycopy(other.addresses, 0, addresses, 0, MOST_STATIONS);
            System.arraycopy(other.alive, 0, alive, 0, MOST_STATIONS);
            System.arraycopy(other.known, 0, known, 0, MOST_STATIONS);
            System.arraycopy(other.gotFrom, 0, gotFrom, 0, MOST_STATIONS);
            System.arraycopy(other.gotTo, 0, gotTo, 0, MOST_STATIONS);
            count = other.count;
            chief = other.chief;
            breakBehind = other.breakBehind;
            breakCause = other.breakCause;
        }

        void append(int address) {
            if (count < 0 || count >= MOST_STATIONS) {
                return;
            }
            addresses[count] = address;
            alive[count] = true;
            known[count] = NONE;
            gotFrom[count] = 0;
            gotTo[count] = 0;
            count++;
        }

        boolean exists(int station) {
            return station >= 0 && station < count && station < MOST_STATIONS;
        }

        boolean isOn(int station) {
            return station >= 0 && station < count && station < MOST_STATIONS && alive[station];
        }

        void switchOn(int station) {
            if (exists(station)) {
                alive[station] = true;
                known[station] = NONE;
            }
        }

        void switchOff(int station) {
            if (exists(station)) {
                alive[station] = false;
            }
        }

        boolean hasAddress(int address) {
            for (int i = 0; i < count; i++) {
                if (exists(i) && addresses[i] == address) {
                    return true;
                }
            }
            return false;
        }

        int onCount() {
            return Integer.bitCount(onBits());
        }

        int onBits() {
            int bits = 0;
            for (int i = 0; i < count; i++) {
                if (isOn(i)) {
                    bits |= 1 << i;
                }
            }
            return bits;
        }

        int greatestOn() {
            int greatest = NONE;
            int address = NONE;
            for (int i = 0; i < count; i++) {
                if (isOn(i) && addresses[i] > address) {
                    greatest = i;
                    address = addresses[i];
                }
            }
            return greatest;
        }

        boolean chiefIsOn() {
            return isOn(chief);
        }

        int following(int station) {
            return station + 1 < count ? station + 1 : 0;
        }

        int preceding(int station) {
            return station > 0 ? station - 1 : count - 1;
        }

        /** The next station behind one that is on, round to itself; NONE if none is on. */
        int nextOn(int station) {
            int here = station;
            for (int i = 0; i < count; i++) {
                here = following(here);
                if (isOn(here)) {
                    return here;
                }
            }
            return NONE;
        }

        /** The next station ahead of one that is on, round to itself; NONE if none is on. */
        int previousOn(int station) {
            int here = station;
            for (int i = 0; i < count; i++) {
                here = preceding(here);
                if (isOn(here)) {
                    return here;
                }
            }
            return NONE;
        }

        int stepsBetween(int from, int to) {
            int steps = 0;
            int here = from;
            for (int i = 0; i < count; i++) {
                here = following(here);
                if (isOn(here)) {
                    steps++;
                }
                if (here == to) {
                    return steps;
                }
            }
            return steps;
        }

        void setBreak(int behind, int cause) {
            breakBehind = behind;
            breakCause = cause;
        }

        boolean breakCounts() {
            return breakCountsWithout(NONE);
        }

        /** Whether the break would count if that station were off. */
        boolean breakCountsWithout(int station) {
            if (!exists(breakBehind)) {
                return false;
            }
            if (breakCause == 2) {
                return true;
            }
            int culprit = breakCause == 0 ? breakBehind : following(breakBehind);
            return culprit != station && isOn(culprit);
        }

        /** Whether a break that counts lies on the way from one station on to another, or round to itself. */
        boolean breakBetween(int from, int to) {
            int here = from;
            for (int i = 0; i < count; i++) {
                if (here == breakBehind) {
                    return breakCounts();
                }
                here = following(here);
                if (here == to) {
                    return false;
                }
            }
            return false;
        }

        int staleBits() {
            int bits = 0;
            for (int i = 0; i < count; i++) {
                if (isOn(i) && known[i] != previousOn(i)) {
                    bits |= 1 << i;
                }
            }
            return bits;
        }

        /** Lets each know the one ahead of it; tells how many of them did not know that. */
        int tellNeighbours() {
            int changed = 0;
            for (int i = 0; i < count; i++) {
                if (isOn(i) && known[i] != previousOn(i)) {
                    known[i] = previousOn(i);
                    changed++;
                }
            }
            return changed;
        }

        void countGot(int from, int to) {
            if (exists(from) && exists(to)) {
                gotFrom[from]++;
                gotTo[to]++;
            }
        }
    }

    /** The frames that wait: each station has a row of slots, filled from its first slot on. */
    private static final class Queues {
        final int[] numbers = new int[SLOTS];
        final int[] goals = new int[SLOTS];
        final int[] rankings = new int[SLOTS];
        final int[] births = new int[SLOTS];
        final int[] sizes = new int[MOST_STATIONS];

        void clear() {
            Arrays.fill(sizes, 0);
        }

        void copyFrom(Queues other) {
            System.arraycopy(other.numbers, 0, numbers, 0, SLOTS);
            System.arraycopy(other.goals, 0, goals, 0, SLOTS);
            System.arraycopy(other.rankings, 0, rankings, 0, SLOTS);
            System.arraycopy(other.births, 0, births, 0, SLOTS);
            System.arraycopy(other.sizes, 0, sizes, 0, MOST_STATIONS);
        }

        int sizeOf(int station) {
            return station >= 0 && station < MOST_STATIONS ? sizes[station] : 0;
        }

        boolean isFull(int station) {
            return sizeOf(station) >= MOST_WAITING;
        }

        int slotAt(int station, int i) {
            return station * MOST_WAITING + i;
        }

        int numberIn(int slot) {
            return slot >= 0 && slot < SLOTS ? numbers[slot] : NONE;
        }

        int toIn(int slot) {
            return slot >= 0 && slot < SLOTS ? goals[slot] : NONE;
        }

        int rankIn(int slot) {
            return slot >= 0 && slot < SLOTS ? rankings[slot] : NONE;
        }

        int birthIn(int slot) {
            return slot >= 0 && slot < SLOTS ? births[slot] : NONE;
        }

        void append(int station, int number, int to, int rank, int birth) {
            int slot = slotAt(station, sizeOf(station));
            if (station < 0 || station >= MOST_STATIONS || isFull(station) || slot < 0 || slot >= SLOTS) {
                return;
            }
            numbers[slot] = number;
            goals[slot] = to;
            rankings[slot] = rank;
            births[slot] = birth;
            sizes[station]++;
        }

        /** The slot of a station's first frame: the greatest rank, of several the one that came ahead. */
        int firstSlot(int station) {
            int first = NONE;
            int greatest = NONE;
            for (int i = 0; i < sizeOf(station); i++) {
                int rank = rankIn(slotAt(station, i));
                if (rank > greatest) {
                    first = slotAt(station, i);
                    greatest = rank;
                }
            }
            return first;
        }

        int firstRank(int station) {
            return rankIn(firstSlot(station));
        }

        int slotOf(int number) {
            for (int station = 0; station < MOST_STATIONS; station++) {
                for (int i = 0; i < sizes[station]; i++) {
                    if (numberIn(slotAt(station, i)) == number) {
                        return slotAt(station, i);
                    }
                }
            }
            return NONE;
        }

        void moveSlot(int from, int to) {
            if (from >= 0 && from < SLOTS && to >= 0 && to < SLOTS) {
                numbers[to] = numbers[from];
                goals[to] = goals[from];
                rankings[to] = rankings[from];
                births[to] = births[from];
            }
        }

        void removeSlot(int slot) {
            if (slot < 0 || slot >= SLOTS) {
                return;
            }
            int station = slot / MOST_WAITING;
            int end = slotAt(station, sizeOf(station));
            if (slot >= end) {
                return;
            }
            for (int i = slot + 1; i < end; i++) {
                moveSlot(i, i - 1);
            }
            sizes[station]--;
        }

        int removeBelow(int station, int rank) {
            int size = sizeOf(station);
            int kept = 0;
            for (int i = 0; i < size; i++) {
                if (rankIn(slotAt(station, i)) >= rank) {
                    moveSlot(slotAt(station, i), slotAt(station, kept));
                    kept++;
                }
            }
            if (station >= 0 && station < MOST_STATIONS) {
                sizes[station] = kept;
            }
            return size - kept;
        }

        int total() {
            int sum = 0;
            for (int station = 0; station < MOST_STATIONS; station++) {
                sum += sizes[station];
            }
            return sum;
        }

        int totalOf(int rank) {
            int sum = 0;
            for (int station = 0; station < MOST_STATIONS; station++) {
                for (int i = 0; i < sizes[station]; i++) {
                    if (rankIn(slotAt(station, i)) == rank) {
                        sum++;
                    }
                }
            }
            return sum;
        }
    }

    /** The raises of each station: couples of an old and a new level, the last one on top. */
    private static final class Raises {
        final int[] olds = new int[MOST_STATIONS * MOST_RAISES];
        final int[] news = new int[MOST_STATIONS * MOST_RAISES];
        final int[] depths = new int[MOST_STATIONS];

        void clear() {
            Arrays.fill(depths, 0);
        }

        void copyFrom(Raises other) {
            System.arraycopy(other.olds, 0, olds, 0, MOST_STATIONS * MOST_RAISES);
            System.arraycopy(other.news, 0, news, 0, MOST_STATIONS * MOST_RAISES);
            System.arraycopy(other.depths, 0, depths, 0, MOST_STATIONS);
        }

        int depthOf(int station) {
            return station >= 0 && station < MOST_STATIONS ? depths[station] : 0;
        }

        /** Where the i-th couple from the top stands; NONE if there is none. */
        int placeOf(int station, int i) {
            if (station < 0 || station >= MOST_STATIONS || i < 0 || i >= depths[station]) {
                return NONE;
            }
            return station * MOST_RAISES + depths[station] - 1 - i;
        }

        int oldAt(int station, int i) {
            int place = placeOf(station, i);
            return place >= 0 && place < olds.length ? olds[place] : NONE;
        }

        int newAt(int station, int i) {
            int place = placeOf(station, i);
            return place >= 0 && place < news.length ? news[place] : NONE;
        }

        void setTopNew(int station, int level) {
            int place = placeOf(station, 0);
            if (place >= 0 && place < news.length) {
                news[place] = level;
            }
        }

        void drop(int station) {
            if (depthOf(station) > 0) {
                depths[station]--;
            }
        }

        void push(int station, int oldLevel, int newLevel) {
            if (station < 0 || station >= MOST_STATIONS || depths[station] < 0 || depths[station] >= MOST_RAISES) {
                return;
            }
            int place = station * MOST_RAISES + depths[station];
            olds[place] = oldLevel;
            news[place] = newLevel;
            depths[station]++;
        }

        void clearOf(int station) {
            if (station >= 0 && station < MOST_STATIONS) {
                depths[station] = 0;
            }
        }

        boolean isEmpty() {
            for (int station = 0; station < MOST_STATIONS; station++) {
                if (depths[station] > 0) {
                    return false;
                }
            }
            return true;
        }
    }

    /** What is on its way. */
    private static final class Way {
        int kind = NOTHING;
        int at = NONE;
        int level = 0;
        int wish = 0;
        boolean marked = false;
        int from = NONE;
        int to = NONE;
        int rank = 0;
        boolean copied = false;
        int number = NONE;
        int birth = 0;

        void clear() {
            kind = NOTHING;
            at = NONE;
            level = 0;
            wish = 0;
            marked = false;
        }

        void copyFrom(Way other) {
            kind = other.kind;
            at = other.at;
            level = other.level;
            wish = other.wish;
            marked = other.marked;
            from = other.from;
            to = other.to;
            rank = other.rank;
            copied = other.copied;
            number = other.number;
            birth = other.birth;
        }

        void becomeToken(int here, int atLevel, int withWish) {
            kind = TOKEN;
            at = here;
            level = atLevel;
            wish = withWish;
            marked = false;
        }

        /** The frame takes the token's place, with its level. */
        void becomeFrame(int here, Queues queues, int slot) {
            kind = FRAME;
            at = here;
            wish = 0;
            marked = false;
            from = here;
            to = queues.toIn(slot);
            rank = queues.rankIn(slot);
            copied = false;
            number = queues.numberIn(slot);
            birth = queues.birthIn(slot);
        }

        int tell(int what) {
            switch (what) {
                case 0:
                    return kind;
                case 1:
                    return at;
                case 2:
                    return level;
                case 3:
                    return wish;
                case 4:
                    return marked ? 1 : 0;
                case 5:
                    return from;
                case 6:
                    return to;
                case 7:
                    return rank;
                case 8:
                    return copied ? 1 : 0;
                case 9:
                    return number;
                default:
                    return NONE;
            }
        }
    }

    /** For how long nothing has been on its way, and the claim or beacon that came of it. */
    private static final class Silence {
        int ticks = 0;
        int sign = 0;
        int tail = NONE;
        int head = NONE;

        void restart() {
            ticks = 0;
            sign = 0;
            tail = NONE;
            head = NONE;
        }

        void copyFrom(Silence other) {
            ticks = other.ticks;
            sign = other.sign;
            tail = other.tail;
            head = other.head;
        }
    }

    /** What has been: counts, the latest frames that were got, the latest events. */
    private static final class Book {
        final int[] counts = new int[COUNTS];
        final int[] rankGot = new int[RANKS];
        final int[] rankAges = new int[RANKS];
        final int[] gots = new int[GOTS * GOT_WIDTH];
        final int[] events = new int[EVENTS * EVENT_WIDTH];
        int eventCount = 0;

        void clear() {
            Arrays.fill(counts, 0);
            Arrays.fill(rankGot, 0);
            Arrays.fill(rankAges, 0);
            eventCount = 0;
        }

        void copyFrom(Book other) {
            System.arraycopy(other.counts, 0, counts, 0, COUNTS);
            System.arraycopy(other.rankGot, 0, rankGot, 0, RANKS);
            System.arraycopy(other.rankAges, 0, rankAges, 0, RANKS);
            System.arraycopy(other.gots, 0, gots, 0, GOTS * GOT_WIDTH);
            System.arraycopy(other.events, 0, events, 0, EVENTS * EVENT_WIDTH);
            eventCount = other.eventCount;
        }

        int counted(int what) {
            return what >= 0 && what < COUNTS ? counts[what] : 0;
        }

        int gotOf(int rank) {
            return rank >= 0 && rank < RANKS ? rankGot[rank] : 0;
        }

        int agesOf(int rank) {
            return rank >= 0 && rank < RANKS ? rankAges[rank] : 0;
        }

        void countRefused() {
            counts[REFUSED]++;
        }

        void countLevel(int level) {
            counts[GREATEST_LEVEL] = Math.max(counts[GREATEST_LEVEL], level);
        }

        /** An event; it is counted, too, if it is of a kind that been() tells. */
        void enter(int kind, int tick, int station) {
            if (kind >= GOT && kind <= BEACONS) {
                counts[kind]++;
            }
            int row = Math.floorMod(eventCount, EVENTS) * EVENT_WIDTH;
            events[row] = kind;
            events[row + 1] = tick;
            events[row + 2] = station;
            eventCount++;
        }

        /** What is kept of a frame that is got, ahead of the event. */
        void keepGot(Way frame, int tick) {
            int age = tick - frame.birth;
            int row = Math.floorMod(counts[GOT], GOTS) * GOT_WIDTH;
            gots[row] = frame.number;
            gots[row + 1] = frame.from;
            gots[row + 2] = frame.to;
            gots[row + 3] = frame.rank;
            gots[row + 4] = tick;
            gots[row + 5] = age;
            counts[AGES] += age;
            counts[GREATEST_AGE] = Math.max(counts[GREATEST_AGE], age);
            if (frame.rank >= 0 && frame.rank < RANKS) {
                rankGot[frame.rank]++;
                rankAges[frame.rank] += age;
            }
        }

        int eventAt(int i, int what) {
            int row = Math.floorMod(eventCount - 1 - i, EVENTS);
            return what >= 0 && what < EVENT_WIDTH ? events[row * EVENT_WIDTH + what] : NONE;
        }

        int gotAt(int i, int what) {
            int row = Math.floorMod(counts[GOT] - 1 - i, GOTS);
            return what >= 0 && what < GOT_WIDTH ? gots[row * GOT_WIDTH + what] : NONE;
        }
    }

    /** All of a ring, and how a tick goes by in it. */
    private static final class Ring {
        final Stations stations = new Stations();
        final Queues queues = new Queues();
        final Raises raises = new Raises();
        final Way way = new Way();
        final Silence silence = new Silence();
        final Book book = new Book();
        int ticks = 0;
        int framesEver = 0;
        // What the latest tick brought: for the questions on paper.
        int gotNow = NONE;
        int fellNow = NONE;
        boolean purgedNow = false;

        void clear() {
            stations.clear();
            queues.clear();
            raises.clear();
            way.clear();
            silence.restart();
            book.clear();
            ticks = 0;
            framesEver = 0;
        }

        void copyFrom(Ring other) {
            stations.copyFrom(other.stations);
            queues.copyFrom(other.queues);
            raises.copyFrom(other.raises);
            way.copyFrom(other.way);
            silence.copyFrom(other.silence);
            book.copyFrom(other.book);
            ticks = other.ticks;
            framesEver = other.framesEver;
            forgetLatestTick();
        }

        void forgetLatestTick() {
            gotNow = NONE;
            fellNow = NONE;
            purgedNow = false;
        }

        int tellOf(int station, int what) {
            if (!stations.exists(station)) {
                return NONE;
            }
            switch (what) {
                case 0:
                    return stations.addresses[station];
                case 1:
                    return stations.isOn(station) ? 1 : 0;
                case 2:
                    return queues.sizeOf(station);
                case 3:
                    return queues.numberIn(queues.firstSlot(station));
                case 4:
                    return raises.depthOf(station);
                case 5:
                    return raises.oldAt(station, 0);
                case 6:
                    return raises.newAt(station, 0);
                case 7:
                    return stations.known[station];
                case 8:
                    return stations.gotFrom[station];
                case 9:
                    return stations.gotTo[station];
                default:
                    return NONE;
            }
        }

        boolean hasFrame(int number) {
            return way.kind == FRAME && way.number == number || queues.slotOf(number) != NONE;
        }

        boolean isQuiet() {
            if (way.kind == FRAME) {
                return false;
            }
            for (int i = 0; i < stations.count; i++) {
                if (stations.isOn(i) && queues.sizeOf(i) > 0) {
                    return false;
                }
            }
            return true;
        }

        int newFrame(int from, int to, int rank) {
            int number = framesEver;
            queues.append(from, number, to, rank, ticks);
            framesEver++;
            return number;
        }

        void switchOff(int station) {
            stations.switchOff(station);
            raises.clearOf(station);
        }

        /** Silence is counted anew whenever the ring is another one than that which it was counted in. */
        void startSilence() {
            if (way.kind == NOTHING) {
                silence.restart();
            }
        }

        int drawn(int draw, int by) {
            return draw * by / DRAW_RANGE;
        }

        int nextDraw(int draw) {
            return (draw * DRAW_TIMES + DRAW_MORE) % DRAW_RANGE;
        }

        /** The draws ahead of a tick; answers the last of them. */
        int drawFrame(int seed, int load) {
            int draw = nextDraw(seed);
            if (drawn(draw, 16) >= load || stations.count == 0) {
                return draw;
            }
            draw = nextDraw(draw);
            int from = drawn(draw, stations.count);
            draw = nextDraw(draw);
            int to = drawn(draw, stations.count);
            draw = nextDraw(draw);
            int rank = drawn(draw, RANKS);
            if (stations.isOn(from) && from != to && !queues.isFull(from)) {
                newFrame(from, to, rank);
            } else {
                book.countRefused();
            }
            return draw;
        }

        void dropIt() {
            book.enter(LOST, ticks, way.at);
            way.clear();
            silence.restart();
        }

        void purge() {
            raises.clear();
            if (way.kind == FRAME) {
                book.enter(LOST, ticks, way.at);
            }
            way.becomeToken(stations.chief, 0, 0);
            silence.restart();
            book.enter(PURGES, ticks, stations.chief);
            purgedNow = true;
        }

        void passTick(boolean plain) {
            ticks++;
            forgetLatestTick();
            if (way.kind == NOTHING) {
                passSilentTick();
            } else {
                moveOn(plain);
            }
        }

        void moveOn(boolean plain) {
            int here = stations.nextOn(way.at);
            if (here == NONE || stations.breakBetween(way.at, here)) {
                dropIt();
                return;
            }
            way.at = here;
            if (here == stations.chief && (way.kind == FRAME || way.level > 0)) {
                if (way.marked) {
                    purge();
                    return;
                }
                way.marked = true;
            }
            if (way.kind == TOKEN) {
                tokenComes(here, plain);
            } else if (way.from == here) {
                endFrame(here, plain);
            } else {
                frameComes(here, plain);
            }
            book.countLevel(way.level);
        }

        void tokenComes(int here, boolean plain) {
            if (raises.newAt(here, 0) == way.level) {
                lowerToken(here);
            }
            int first = queues.firstSlot(here);
            if (first == NONE) {
                return;
            }
            if (queues.rankIn(first) >= way.level) {
                way.becomeFrame(here, queues, first);
                queues.removeSlot(first);
            } else if (!plain) {
                way.wish = Math.max(way.wish, queues.rankIn(first));
            }
        }

        void lowerToken(int here) {
            int old = raises.oldAt(here, 0);
            if (way.wish > old) {
                way.level = way.wish;
                raises.setTopNew(here, way.wish);
                way.wish = 0;
            } else {
                way.level = old;
                raises.drop(here);
            }
            way.marked = false;
        }

        void frameComes(int here, boolean plain) {
            if (way.to == here) {
                way.copied = true;
            }
            if (!plain) {
                way.wish = Math.max(way.wish, queues.firstRank(here));
            }
        }

        void endFrame(int here, boolean plain) {
            if (way.copied) {
                book.keepGot(way, ticks);
                stations.countGot(way.from, way.to);
                book.enter(GOT, ticks, here);
                gotNow = way.number;
            } else {
                book.enter(MISSED, ticks, here);
            }
            int level = way.level;
            int wish = plain ? way.wish : Math.max(way.wish, queues.firstRank(here));
            if (wish <= level) {
                way.becomeToken(here, level, wish);
                return;
            }
            way.becomeToken(here, wish, 0);
            if (raises.newAt(here, 0) == level) {
                raises.setTopNew(here, wish);
            } else {
                raises.push(here, level, wish);
            }
        }

        void passSilentTick() {
            silence.ticks++;
            int on = stations.onCount();
            if (on == 0) {
                return;
            }
            if (silence.ticks == on + 1) {
                answerSilence();
            } else if (silence.ticks == on + on + 1 && silence.sign == CLAIM) {
                crownGreatest();
            } else if (silence.ticks == on + on + 1 && silence.sign == BEACON) {
                blame(silence.tail);
            } else if (silence.ticks == on + on + 2 && silence.sign == BEACON) {
                blame(silence.head);
            }
        }

        void answerSilence() {
            if (stations.breakCounts()) {
                silence.sign = BEACON;
                silence.head = stations.nextOn(stations.breakBehind);
                silence.tail = stations.previousOn(stations.following(stations.breakBehind));
                book.enter(BEACONS, ticks, silence.tail);
            } else if (stations.chiefIsOn()) {
                purge();
            } else {
                silence.sign = CLAIM;
                book.enter(CLAIMS, ticks, stations.greatestOn());
            }
        }

        void crownGreatest() {
            stations.chief = stations.greatestOn();
            book.enter(CROWNED, ticks, stations.chief);
            purge();
        }

        void blame(int station) {
            if (stations.breakCountsWithout(station)) {
                return;
            }
            switchOff(station);
            book.enter(FELL_OFF, ticks, station);
            fellNow = station;
            silence.restart();
        }
    }

    /** Lets ticks go by on a copy of the ring and tells what comes of it; NONE if it does not come to that. */
    private static final class Paper {
        final Ring ring;
        final Ring copy;
        final int[] gotAt = new int[SLOTS];
        final int[] gotPlainAt = new int[SLOTS];

        Paper(Ring ring, Ring copy) {
            this.ring = ring;
            this.copy = copy;
        }

        /** In how many ticks it comes to that; the copy stands as it is then. */
        int ticksTill(int goal, int number, boolean plain) {
            copy.copyFrom(ring);
            for (int i = 0; i <= PAPER_TICKS; i++) {
                if (hasCome(goal, number)) {
                    return i;
                }
                copy.passTick(plain);
            }
            return NONE;
        }

        boolean hasCome(int goal, int number) {
            switch (goal) {
                case TILL_QUIET:
                    return copy.isQuiet();
                case TILL_GOT:
                    return copy.gotNow == number;
                case TILL_LOWERED:
                    return copy.raises.isEmpty();
                case TILL_TOKEN:
                    return copy.way.kind == TOKEN;
                case TILL_PURGE:
                    return copy.purgedNow;
                case TILL_FALL:
                    return copy.fellNow != NONE;
                default:
                    return false;
            }
        }

        int numberGot(int which, boolean plain) {
            copy.copyFrom(ring);
            int ahead = 0;
            for (int i = 1; i <= PAPER_TICKS; i++) {
                copy.passTick(plain);
                if (copy.gotNow != NONE) {
                    if (ahead == which) {
                        return copy.gotNow;
                    }
                    ahead++;
                }
            }
            return NONE;
        }

        int greatestLevel() {
            copy.copyFrom(ring);
            int greatest = 0;
            for (int i = 0; i <= PAPER_TICKS; i++) {
                if (copy.way.kind != NOTHING) {
                    greatest = Math.max(greatest, copy.way.level);
                }
                if (copy.isQuiet()) {
                    return greatest;
                }
                copy.passTick(false);
            }
            return NONE;
        }

        /** The sum over all that was noted both ways. */
        int ticksGained() {
            int sum = 0;
            for (int slot = 0; slot < SLOTS; slot++) {
                if (gotAt[slot] != NONE && gotPlainAt[slot] != NONE) {
                    sum += gotPlainAt[slot] - gotAt[slot];
                }
            }
            return sum;
        }

        /** Notes for each frame that waits now, by its slot, in how many ticks it is got. */
        void noteGot(boolean plain) {
            int[] ticksOfSlot = plain ? gotPlainAt : gotAt;
            Arrays.fill(ticksOfSlot, NONE);
            copy.copyFrom(ring);
            for (int i = 1; i <= PAPER_TICKS; i++) {
                copy.passTick(plain);
                int slot = copy.gotNow == NONE ? NONE : ring.queues.slotOf(copy.gotNow);
                if (slot >= 0 && slot < ticksOfSlot.length) {
                    ticksOfSlot[slot] = i;
                }
            }
        }
    }

    /** Reads the text of a ring from the tape, token by token, up to its first fault. */
    private static final class Reader {
        static final int END = 0;
        static final int WORD = 1;
        static final int NUMBER = 2;
        static final int SIGN = 3;

        static final int NO_TOKEN = 1;
        static final int MISPLACED = 2;
        static final int BAD_NAME = 3;
        static final int BAD_VALUE = 4;
        static final int BAD_SENSE = 5;
        static final int ONE_MORE = 6;

        final Tape tape;
        final Ring ring;
        final int[] nameStarts = new int[MOST_STATIONS];
        final int[] nameSizes = new int[MOST_STATIONS];
        int length = 0;
        int place = 0;
        int kind = END;
        int start = 0;
        int size = 0;
        int value = 0;
        int named = NONE;
        int faultKind = 0;
        int faultPlace = NONE;

        Reader(Tape tape, Ring ring) {
            this.tape = tape;
            this.ring = ring;
        }

        boolean readText(int bytes) {
            ring.clear();
            length = bytes;
            place = 0;
            faultKind = 0;
            faultPlace = NONE;
            // Each line takes a byte at least.
            for (int i = 0; i <= TAPE_BYTES; i++) {
                if (!readToken()) {
                    return false;
                }
                if (kind == END) {
                    return true;
                }
                if (!readLine()) {
                    return false;
                }
            }
            return true;
        }

        boolean fail(int fault) {
            faultKind = fault;
            faultPlace = start;
            return false;
        }

        boolean readLine() {
            if (isWord("station")) {
                return readStation();
            }
            if (isWord("off")) {
                return readOff();
            }
            if (isWord("monitor")) {
                return readMonitor();
            }
            if (isWord("send")) {
                return readSend();
            }
            if (isWord("break")) {
                return readBreak();
            }
            return fail(MISPLACED);
        }

        boolean readStation() {
            Stations stations = ring.stations;
            int station = stations.count;
            if (station < 0 || station >= MOST_STATIONS) {
                return fail(ONE_MORE);
            }
            if (!readName(true)) {
                return false;
            }
            nameStarts[station] = start;
            nameSizes[station] = size;
            if (!readNumber(ADDRESSES - 1)) {
                return false;
            }
            if (stations.hasAddress(value)) {
                return fail(BAD_VALUE);
            }
            stations.append(value);
            return readSign();
        }

        boolean readOff() {
            if (!readName(false)) {
                return false;
            }
            if (!ring.stations.isOn(named)) {
                return fail(BAD_SENSE);
            }
            ring.stations.switchOff(named);
            return readSign();
        }

        boolean readMonitor() {
            if (!readName(false)) {
                return false;
            }
            ring.stations.chief = named;
            return readSign();
        }

        boolean readSend() {
            if (!readName(false)) {
                return false;
            }
            int from = named;
            if (ring.queues.isFull(from)) {
                return fail(ONE_MORE);
            }
            if (!readName(false)) {
                return false;
            }
            int to = named;
            if (to == from) {
                return fail(BAD_SENSE);
            }
            if (!readNumber(RANKS - 1)) {
                return false;
            }
            ring.newFrame(from, to, value);
            return readSign();
        }

        boolean readBreak() {
            if (ring.stations.breakBehind != NONE) {
                return fail(ONE_MORE);
            }
            if (!readName(false)) {
                return false;
            }
            int behind = named;
            if (!readNumber(CAUSES - 1)) {
                return false;
            }
            ring.stations.setBreak(behind, value);
            return readSign();
        }

        /** Reads a name, a new one or that of a station; named is then the station that has it, or NONE. */
        boolean readName(boolean isNew) {
            if (!readToken()) {
                return false;
            }
            if (kind != WORD || size > 8 || isLineWord()) {
                return fail(MISPLACED);
            }
            named = NONE;
            for (int i = 0; i < ring.stations.count; i++) {
                if (isNameOf(i)) {
                    named = i;
                }
            }
            return isNew == (named == NONE) || fail(BAD_NAME);
        }

        boolean readNumber(int most) {
            if (!readToken()) {
                return false;
            }
            if (kind != NUMBER) {
                return fail(MISPLACED);
            }
            return value <= most || fail(BAD_VALUE);
        }

        boolean readSign() {
            if (!readToken()) {
                return false;
            }
            return kind == SIGN || fail(MISPLACED);
        }

        boolean readToken() {
            skipBlanks();
            start = place;
            size = 0;
            if (place >= length) {
                kind = END;
                return true;
            }
            int sign = tape.byteAt(place);
            if (isLetter(sign)) {
                kind = WORD;
                takeLetters();
                return true;
            }
            if (isDigit(sign)) {
                kind = NUMBER;
                takeDigits();
                return size <= 4 || fail(NO_TOKEN);
            }
            kind = SIGN;
            place++;
            return sign == ';' || fail(NO_TOKEN);
        }

        void skipBlanks() {
            while (place < length && (tape.byteAt(place) == 10 || tape.byteAt(place) == 32)) {
                place++;
            }
        }

        void takeLetters() {
            while (place < length && isLetter(tape.byteAt(place))) {
                place++;
                size++;
            }
        }

        void takeDigits() {
            value = 0;
            while (place < length && isDigit(tape.byteAt(place))) {
                value = value * 10 + tape.byteAt(place) - '0';
                place++;
                size++;
            }
        }

        boolean isLetter(int sign) {
            return sign >= 'a' && sign <= 'z';
        }

        boolean isDigit(int sign) {
            return sign >= '0' && sign <= '9';
        }

        boolean isLineWord() {
            return isWord("station") || isWord("off") || isWord("monitor") || isWord("send") || isWord("break");
        }

        boolean isWord(String word) {
            if (kind != WORD || size != word.length()) {
                return false;
            }
            for (int i = 0; i < word.length(); i++) {
                if (tape.byteAt(start + i) != word.charAt(i)) {
                    return false;
                }
            }
            return true;
        }

        boolean isNameOf(int station) {
            if (station < 0 || station >= MOST_STATIONS || nameSizes[station] != size) {
                return false;
            }
            for (int i = 0; i < size; i++) {
                if (tape.byteAt(start + i) != tape.byteAt(nameStarts[station] + i)) {
                    return false;
                }
            }
            return true;
        }
    }
}

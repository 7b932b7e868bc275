import java.util.ArrayDeque;
import java.util.ArrayList;
import java.util.Deque;
import java.util.Iterator;
import java.util.List;
import java.util.regex.Matcher;
import java.util.regex.Pattern;

/** The document told once more, with lists and copies, to compare the program with. */
final class Model {
    static final class Frame {
        int number;
        int from;
        int to;
        int rank;
        int born;
    }

    static final class Station {
        int address;
        boolean on = true;
        int knows = -1;
        int gotFrom;
        int gotTo;
        List<Frame> waiting = new ArrayList<>();
        Deque<int[]> raises = new ArrayDeque<>();

        Station copy() {
            Station c = new Station();
            c.address = address;
            c.on = on;
            c.knows = knows;
            c.gotFrom = gotFrom;
            c.gotTo = gotTo;
            c.waiting.addAll(waiting);
            for (int[] couple : raises) {
                c.raises.addLast(couple.clone());
            }
            return c;
        }

        Frame first() {
            Frame best = null;
            for (Frame f : waiting) {
                if (best == null || f.rank > best.rank) {
                    best = f;
                }
            }
            return best;
        }
    }

    static final class Fault extends RuntimeException {
        final int kind;
        final int place;

        Fault(int kind, int place) {
            this.kind = kind;
            this.place = place;
        }
    }

    static final class State {
        List<Station> ring = new ArrayList<>();
        int monitor = -1;
        int breakAt = -1;
        int cause = -1;
        int frames;
        int tick;
        // On its way: a frame if carried is not null.
        boolean something;
        Frame carried;
        int at;
        int level;
        int wish;
        boolean marked;
        boolean copied;
        int silent;
        int sign;
        int tail = -1;
        int head = -1;
        int[] been = new int[10];
        int[][] ranks = new int[8][2];
        List<int[]> gots = new ArrayList<>();
        List<int[]> events = new ArrayList<>();
        // of the tape
        String tape = "";
        int fault = -1;
        int place = -1;
        // of the latest tick
        Frame gotNow;
        int fellNow = -1;
        boolean purgedNow;

        State copy() {
            State c = new State();
            for (Station s : ring) {
                c.ring.add(s.copy());
            }
            c.monitor = monitor;
            c.breakAt = breakAt;
            c.cause = cause;
            c.frames = frames;
            c.tick = tick;
            c.something = something;
            c.carried = carried;
            c.at = at;
            c.level = level;
            c.wish = wish;
            c.marked = marked;
            c.copied = copied;
            c.silent = silent;
            c.sign = sign;
            c.tail = tail;
            c.head = head;
            c.been = been.clone();
            for (int i = 0; i < 8; i++) {
                c.ranks[i] = ranks[i].clone();
            }
            c.gots.addAll(gots);
            c.events.addAll(events);
            c.tape = tape;
            c.fault = fault;
            c.place = place;
            return c;
        }

        int size() {
            return ring.size();
        }

        boolean on(int s) {
            return ring.get(s).on;
        }

        int onCount() {
            return (int) ring.stream().filter(s -> s.on).count();
        }

        boolean counts(int offToo) {
            if (breakAt < 0) {
                return false;
            }
            int next = (breakAt + 1) % size();
            if (cause == 0) {
                return on(breakAt) && breakAt != offToo;
            }
            if (cause == 1) {
                return on(next) && next != offToo;
            }
            return true;
        }

        int next(int s) {
            for (int i = 1; i <= size(); i++) {
                if (on((s + i) % size())) {
                    return (s + i) % size();
                }
            }
            return -1;
        }

        int ahead(int s) {
            for (int i = 1; i <= size(); i++) {
                int h = Math.floorMod(s - i, size());
                if (on(h)) {
                    return h;
                }
            }
            return -1;
        }

        /** How many links lie from one on to another, all round if it is the same. */
        int links(int from, int to) {
            int d = Math.floorMod(to - from, size());
            return d == 0 ? size() : d;
        }

        boolean broken(int from, int to) {
            return counts(-1) && Math.floorMod(breakAt - from, size()) < links(from, to);
        }

        int greatest() {
            int best = -1;
            for (int i = 0; i < size(); i++) {
                if (on(i) && (best < 0 || ring.get(i).address > ring.get(best).address)) {
                    best = i;
                }
            }
            return best;
        }

        void event(int kind, int station) {
            events.add(0, new int[] {kind, tick, station});
            if (events.size() > 24) {
                events.remove(24);
            }
        }

        void silence() {
            silent = 0;
            sign = 0;
            tail = -1;
            head = -1;
        }

        void silenceIfNothing() {
            if (!something) {
                silence();
            }
        }

        void lost() {
            been[2]++;
            event(2, at);
            something = false;
            carried = null;
            silence();
        }

        void token(int where, int l, int w) {
            something = true;
            carried = null;
            at = where;
            level = l;
            wish = w;
            marked = false;
        }

        void purge() {
            for (Station s : ring) {
                s.raises.clear();
            }
            if (something && carried != null) {
                been[2]++;
                event(2, at);
            }
            token(monitor, 0, 0);
            silence();
            been[3]++;
            event(3, monitor);
            purgedNow = true;
        }

        void fallOff(int s) {
            if (!counts(s)) {
                ring.get(s).on = false;
                ring.get(s).raises.clear();
                event(6, s);
                fellNow = s;
                silence();
            }
        }

        void silentTick() {
            silent++;
            int n = onCount();
            if (n == 0) {
                return;
            }
            if (silent == n + 1) {
                if (counts(-1)) {
                    sign = 2;
                    tail = on(breakAt) ? breakAt : ahead(breakAt);
                    head = next(breakAt);
                    been[5]++;
                    event(5, tail);
                } else if (monitor >= 0 && on(monitor)) {
                    purge();
                } else {
                    sign = 1;
                    been[4]++;
                    event(4, greatest());
                }
            } else if (silent == 2 * n + 1) {
                if (sign == 1) {
                    monitor = greatest();
                    event(7, monitor);
                    purge();
                } else if (sign == 2) {
                    fallOff(tail);
                }
            } else if (silent == 2 * n + 2 && sign == 2) {
                fallOff(head);
            }
        }

        void tick(boolean plain) {
            tick++;
            gotNow = null;
            fellNow = -1;
            purgedNow = false;
            if (!something) {
                silentTick();
                return;
            }
            int to = next(at);
            if (to < 0 || broken(at, to)) {
                lost();
                return;
            }
            at = to;
            if (at == monitor && (carried != null || level > 0)) {
                if (marked) {
                    purge();
                    return;
                }
                marked = true;
            }
            if (carried == null) {
                tokenAt(ring.get(at), plain);
            } else {
                frameAt(ring.get(at), plain);
            }
            been[6] = Math.max(been[6], level);
        }

        void tokenAt(Station s, boolean plain) {
            int[] top = s.raises.peekFirst();
            if (top != null && top[1] == level) {
                if (wish > top[0]) {
                    level = wish;
                    top[1] = wish;
                    wish = 0;
                } else {
                    level = top[0];
                    s.raises.removeFirst();
                }
                marked = false;
            }
            Frame f = s.first();
            if (f != null && f.rank >= level) {
                s.waiting.remove(f);
                carried = f;
                wish = 0;
                marked = false;
                copied = false;
            } else if (f != null && f.rank > wish && !plain) {
                wish = f.rank;
            }
        }

        void frameAt(Station s, boolean plain) {
            Frame f = s.first();
            if (carried.from != at) {
                copied |= carried.to == at;
                if (f != null && f.rank > wish && !plain) {
                    wish = f.rank;
                }
                return;
            }
            if (copied) {
                gotNow = carried;
                int age = tick - carried.born;
                been[0]++;
                been[8] += age;
                been[9] = Math.max(been[9], age);
                ranks[carried.rank][0]++;
                ranks[carried.rank][1] += age;
                s.gotFrom++;
                ring.get(carried.to).gotTo++;
                gots.add(0, new int[] {carried.number, carried.from, carried.to, carried.rank, tick, age});
                if (gots.size() > 16) {
                    gots.remove(16);
                }
                event(0, at);
            } else {
                been[1]++;
                event(1, at);
            }
            int w = wish;
            if (!plain && f != null && f.rank > w) {
                w = f.rank;
            }
            int was = level;
            if (w <= was) {
                token(at, was, w);
                return;
            }
            token(at, w, 0);
            if (!s.raises.isEmpty() && s.raises.peekFirst()[1] == was) {
                s.raises.peekFirst()[1] = w;
            } else {
                s.raises.addFirst(new int[] {was, w});
            }
        }

        boolean quiet() {
            return carried == null && ring.stream().noneMatch(s -> s.on && !s.waiting.isEmpty());
        }

        int send(int from, int to, int rank) {
            Frame f = new Frame();
            f.number = frames++;
            f.from = from;
            f.to = to;
            f.rank = rank;
            f.born = tick;
            ring.get(from).waiting.add(f);
            return f.number;
        }
    }

    State now = new State();
    final List<State> marks = new ArrayList<>();
    int status;

    // ---- the text

    private static final Pattern TOKEN = Pattern.compile("[\n ]*([a-z]+|[0-9]+|;|\\z|.)", Pattern.DOTALL);
    private static final List<String> LINES = List.of("station", "off", "monitor", "send", "break");

    private Matcher tokens;
    private List<String> names;

    private String token() {
        if (!tokens.find()) {
            throw new IllegalStateException();
        }
        String t = tokens.group(1);
        if (!t.matches("[a-z]+|[0-9]{1,4}|;|")) {
            throw at(1);
        }
        return t;
    }

    private Fault at(int kind) {
        return new Fault(kind, tokens.start(1));
    }

    private int name(boolean isNew) {
        String t = token();
        if (!t.matches("[a-z]{1,8}") || LINES.contains(t)) {
            throw at(2);
        }
        int known = names.indexOf(t);
        if (known >= 0 == isNew) {
            throw at(3);
        }
        if (isNew) {
            names.add(t);
        }
        return known;
    }

    private int number(int most) {
        String t = token();
        if (!t.matches("[0-9]+")) {
            throw at(2);
        }
        if (Integer.parseInt(t) > most) {
            throw at(4);
        }
        return Integer.parseInt(t);
    }

    private State parse(String text) {
        State s = new State();
        tokens = TOKEN.matcher(text);
        names = new ArrayList<>();
        while (true) {
            String line = token();
            if (line.isEmpty()) {
                return s;
            }
            switch (line) {
                case "station" -> {
                    if (s.size() == 8) {
                        throw at(6);
                    }
                    name(true);
                    Station made = new Station();
                    made.address = number(99);
                    if (s.ring.stream().anyMatch(o -> o.address == made.address)) {
                        throw at(4);
                    }
                    s.ring.add(made);
                }
                case "off" -> {
                    Station it = s.ring.get(name(false));
                    if (!it.on) {
                        throw at(5);
                    }
                    it.on = false;
                }
                case "monitor" -> s.monitor = name(false);
                case "send" -> {
                    int from = name(false);
                    if (s.ring.get(from).waiting.size() == 6) {
                        throw at(6);
                    }
                    int to = name(false);
                    if (from == to) {
                        throw at(5);
                    }
                    s.send(from, to, number(7));
                }
                case "break" -> {
                    if (s.breakAt >= 0) {
                        throw at(6);
                    }
                    int behind = name(false);
                    s.cause = number(2);
                    s.breakAt = behind;
                }
                default -> throw at(2);
            }
            if (!token().equals(";")) {
                throw at(2);
            }
        }
    }

    // ---- the calls

    private int bad(int s) {
        status = s;
        return -1;
    }

    private boolean no(int s) {
        status = s;
        return false;
    }

    private boolean outside(int value, int most) {
        return value < 0 || value > most;
    }

    private boolean strange(int s) {
        return s < 0 || s >= now.size();
    }

    int feed(int... words) {
        if (now.tape.length() > 480) {
            return -1;
        }
        StringBuilder more = new StringBuilder(now.tape);
        for (int w : words) {
            for (int i = 3; i >= 0; i--) {
                more.append((char) (w >>> 8 * i & 255));
            }
        }
        now.tape = more.toString();
        return now.tape.length();
    }

    int load(int n) {
        if (outside(n, now.tape.length())) {
            return bad(1);
        }
        String text = now.tape.substring(0, n);
        now.tape = "";
        status = 0;
        try {
            State s = parse(text);
            s.fault = 0;
            now = s;
            return s.size();
        } catch (Fault f) {
            now.fault = f.kind;
            now.place = f.place;
            return bad(9);
        }
    }

    int fault(int what) {
        return what == 0 ? now.fault : what == 1 ? now.place : -1;
    }

    int many(int what) {
        if (outside(what, 10)) {
            return bad(1);
        }
        status = 0;
        int bits = 0;
        int waiting = 0;
        for (int i = 0; i < now.size(); i++) {
            bits |= now.on(i) ? 1 << i : 0;
            waiting += now.ring.get(i).waiting.size();
        }
        return new int[] {now.size(), bits, now.monitor, waiting, now.frames, now.tick,
            now.something ? -1 : now.silent, marks.size(), now.counts(-1) ? 1 : 0, now.breakAt, now.cause}[what];
    }

    int station(int s, int what) {
        if (outside(what, 9)) {
            return bad(1);
        }
        if (strange(s)) {
            return bad(2);
        }
        status = 0;
        Station x = now.ring.get(s);
        int[] top = x.raises.isEmpty() ? new int[] {-1, -1} : x.raises.peekFirst();
        return new int[] {x.address, x.on ? 1 : 0, x.waiting.size(), x.first() == null ? -1 : x.first().number,
            x.raises.size(), top[0], top[1], x.knows, x.gotFrom, x.gotTo}[what];
    }

    int waits(int s, int i, int what) {
        if (i < 0 || outside(what, 2)) {
            return bad(1);
        }
        if (strange(s)) {
            return bad(2);
        }
        if (i >= now.ring.get(s).waiting.size()) {
            return bad(5);
        }
        status = 0;
        Frame f = now.ring.get(s).waiting.get(i);
        return new int[] {f.number, f.to, f.rank}[what];
    }

    int way(int what) {
        if (outside(what, 9)) {
            return bad(1);
        }
        if (what > 0 && !now.something || what > 4 && now.carried == null) {
            return bad(6);
        }
        status = 0;
        int kind = !now.something ? 0 : now.carried == null ? 1 : 2;
        Frame f = now.carried == null ? new Frame() : now.carried;
        return new int[] {kind, now.at, now.level, now.wish, now.marked ? 1 : 0, f.from, f.to, f.rank,
            now.copied ? 1 : 0, f.number}[what];
    }

    int beacon(int what) {
        if (outside(what, 2)) {
            return bad(1);
        }
        if (what > 0 && now.sign != 2) {
            return bad(5);
        }
        status = 0;
        return new int[] {now.sign, now.tail, now.head}[what];
    }

    int been(int what) {
        if (outside(what, 9)) {
            return bad(1);
        }
        status = 0;
        return now.been[what];
    }

    int got(int i, int what) {
        if (outside(i, 15) || outside(what, 5)) {
            return bad(1);
        }
        if (i >= now.gots.size()) {
            return bad(5);
        }
        status = 0;
        return now.gots.get(i)[what];
    }

    int raise(int s, int i, int what) {
        if (i < 0 || outside(what, 1)) {
            return bad(1);
        }
        if (strange(s)) {
            return bad(2);
        }
        List<int[]> couples = new ArrayList<>(now.ring.get(s).raises);
        if (i >= couples.size()) {
            return bad(5);
        }
        status = 0;
        return couples.get(i)[what];
    }

    int event(int i, int what) {
        if (outside(i, 23) || outside(what, 2)) {
            return bad(1);
        }
        if (i >= now.events.size()) {
            return bad(5);
        }
        status = 0;
        return now.events.get(i)[what];
    }

    int ranks(int rank, int what) {
        if (outside(rank, 7) || outside(what, 2)) {
            return bad(1);
        }
        status = 0;
        if (what == 0) {
            return (int) now.ring.stream().flatMap(s -> s.waiting.stream()).filter(f -> f.rank == rank).count();
        }
        return now.ranks[rank][what - 1];
    }

    int hops(int from, int to) {
        if (strange(from) || strange(to)) {
            return bad(2);
        }
        if (now.broken(from, to)) {
            return bad(3);
        }
        if (!now.on(to)) {
            return bad(5);
        }
        status = 0;
        int steps = 0;
        int here = from;
        do {
            here = now.next(here);
            steps++;
        } while (here != to);
        return steps;
    }

    int heir() {
        if (now.greatest() < 0) {
            return bad(5);
        }
        status = 0;
        return now.greatest();
    }

    int add(int address) {
        if (outside(address, 99)) {
            return bad(1);
        }
        if (now.size() == 8) {
            return bad(3);
        }
        if (now.ring.stream().anyMatch(s -> s.address == address)) {
            return bad(8);
        }
        status = 0;
        Station s = new Station();
        s.address = address;
        now.ring.add(s);
        now.silenceIfNothing();
        return now.size() - 1;
    }

    int send(int from, int to, int rank) {
        if (outside(rank, 7)) {
            return bad(1);
        }
        if (strange(from) || strange(to)) {
            return bad(2);
        }
        if (now.ring.get(from).waiting.size() == 6) {
            return bad(3);
        }
        if (from == to) {
            return bad(8);
        }
        status = 0;
        return now.send(from, to, rank);
    }

    int take(int number) {
        if (number < 0) {
            return bad(1);
        }
        for (int s = 0; s < now.size(); s++) {
            if (now.ring.get(s).waiting.removeIf(f -> f.number == number)) {
                status = 0;
                return s;
            }
        }
        return bad(5);
    }

    int shed(int s, int rank) {
        if (outside(rank, 8)) {
            return bad(1);
        }
        if (strange(s)) {
            return bad(2);
        }
        status = 0;
        int gone = 0;
        for (Iterator<Frame> it = now.ring.get(s).waiting.iterator(); it.hasNext();) {
            if (it.next().rank < rank) {
                it.remove();
                gone++;
            }
        }
        return gone;
    }

    boolean off(int s) {
        if (strange(s)) {
            return no(2);
        }
        if (!now.on(s)) {
            return no(4);
        }
        status = 0;
        now.ring.get(s).on = false;
        now.ring.get(s).raises.clear();
        now.silenceIfNothing();
        return true;
    }

    boolean on(int s) {
        if (strange(s)) {
            return no(2);
        }
        if (now.on(s)) {
            return no(4);
        }
        status = 0;
        now.ring.get(s).on = true;
        now.ring.get(s).knows = -1;
        now.silenceIfNothing();
        return true;
    }

    boolean monitor(int s) {
        if (strange(s)) {
            return no(2);
        }
        if (now.monitor == s) {
            return no(4);
        }
        status = 0;
        now.monitor = s;
        return true;
    }

    boolean lose() {
        if (!now.something) {
            return no(6);
        }
        status = 0;
        now.lost();
        return true;
    }

    boolean snap(int s, int cause) {
        if (outside(cause, 2)) {
            return no(1);
        }
        if (strange(s)) {
            return no(2);
        }
        if (now.breakAt >= 0) {
            return no(3);
        }
        status = 0;
        now.breakAt = s;
        now.cause = cause;
        now.silenceIfNothing();
        return true;
    }

    boolean mend() {
        if (now.breakAt < 0) {
            return no(5);
        }
        status = 0;
        now.breakAt = -1;
        now.cause = -1;
        now.silenceIfNothing();
        return true;
    }

    int tick(int many) {
        if (many < 1 || many > 500) {
            return bad(1);
        }
        status = 0;
        for (int i = 0; i < many; i++) {
            now.tick(false);
        }
        return now.tick;
    }

    int run(int ticks, int seed, int load) {
        if (ticks < 1 || ticks > 500 || outside(seed, 9999) || outside(load, 16)) {
            return bad(1);
        }
        status = 0;
        int ahead = now.been[0];
        long[] s = {seed};
        for (int i = 0; i < ticks; i++) {
            if (draw(s, 16) < load && now.size() > 0) {
                int from = draw(s, now.size());
                int to = draw(s, now.size());
                int rank = draw(s, 8);
                if (!now.on(from) || from == to || now.ring.get(from).waiting.size() == 6) {
                    now.been[7]++;
                } else {
                    now.send(from, to, rank);
                }
            }
            now.tick(false);
        }
        return now.been[0] - ahead;
    }

    private static int draw(long[] s, int by) {
        s[0] = (s[0] * 3877 + 29573) % 139968;
        return (int) (s[0] * by / 139968);
    }

    int notice() {
        if (now.counts(-1)) {
            return bad(3);
        }
        if (now.monitor < 0 || !now.on(now.monitor)) {
            return bad(5);
        }
        if (!now.something || now.carried != null) {
            return bad(6);
        }
        status = 0;
        int changed = 0;
        for (int i = 0; i < now.size(); i++) {
            Station s = now.ring.get(i);
            if (s.on) {
                changed += s.knows == now.ahead(i) ? 0 : 1;
                s.knows = now.ahead(i);
            }
        }
        return changed;
    }

    int stale() {
        status = 0;
        int bits = 0;
        for (int i = 0; i < now.size(); i++) {
            if (now.on(i) && now.ring.get(i).knows != now.ahead(i)) {
                bits |= 1 << i;
            }
        }
        return bits;
    }

    int mark() {
        if (marks.size() == 4) {
            return bad(3);
        }
        status = 0;
        marks.add(now.copy());
        return marks.size();
    }

    int back() {
        if (marks.isEmpty()) {
            return bad(5);
        }
        status = 0;
        now = marks.remove(marks.size() - 1);
        return marks.size();
    }

    // ---- on paper

    private int reached(int answer) {
        status = answer < 0 ? 7 : 0;
        return answer;
    }

    int quiet(boolean plain) {
        State s = now.copy();
        int n = 0;
        while (!s.quiet() && n < 3000) {
            s.tick(plain);
            n++;
        }
        return reached(s.quiet() ? n : -1);
    }

    private int[] gotIn(int number, boolean plain) {
        State s = now.copy();
        for (int n = 1; n <= 3000; n++) {
            s.tick(plain);
            if (s.gotNow != null && s.gotNow.number == number) {
                return new int[] {n};
            }
        }
        return new int[0];
    }

    int when(int number, boolean plain) {
        if (number < 0) {
            return bad(1);
        }
        boolean there = now.carried != null && now.carried.number == number
            || now.ring.stream().flatMap(s -> s.waiting.stream()).anyMatch(f -> f.number == number);
        if (!there) {
            return bad(5);
        }
        int[] n = gotIn(number, plain);
        return reached(n.length == 0 ? -1 : n[0]);
    }

    int next(int i, boolean plain) {
        if (i < 0) {
            return bad(1);
        }
        State s = now.copy();
        List<Integer> numbers = new ArrayList<>();
        for (int n = 1; n <= 3000; n++) {
            s.tick(plain);
            if (s.gotNow != null) {
                numbers.add(s.gotNow.number);
            }
        }
        return reached(i < numbers.size() ? numbers.get(i) : -1);
    }

    int peak() {
        State s = now.copy();
        int peak = s.something ? s.level : 0;
        int n = 0;
        while (!s.quiet() && n < 3000) {
            s.tick(false);
            peak = Math.max(peak, s.something ? s.level : 0);
            n++;
        }
        return reached(s.quiet() ? peak : -1);
    }

    int lowered() {
        State s = now.copy();
        for (int n = 0; n <= 3000; n++, s.tick(false)) {
            if (s.ring.stream().allMatch(x -> x.raises.isEmpty())) {
                return reached(n);
            }
        }
        return bad(7);
    }

    int healed() {
        State s = now.copy();
        for (int n = 0; n <= 3000; n++, s.tick(false)) {
            if (s.something && s.carried == null) {
                return reached(n);
            }
        }
        return bad(7);
    }

    int purged() {
        State s = now.copy();
        for (int n = 1; n <= 3000; n++) {
            s.tick(false);
            if (s.purgedNow) {
                return reached(n);
            }
        }
        return bad(7);
    }

    int blamed() {
        State s = now.copy();
        for (int n = 1; n <= 3000; n++) {
            s.tick(false);
            if (s.fellNow >= 0) {
                return reached(s.fellNow);
            }
        }
        return bad(7);
    }

    int gain() {
        status = 0;
        int sum = 0;
        for (Station s : now.ring) {
            for (Frame f : s.waiting) {
                int[] wished = gotIn(f.number, false);
                int[] plain = gotIn(f.number, true);
                if (wished.length > 0 && plain.length > 0) {
                    sum += plain[0] - wished[0];
                }
            }
        }
        return sum;
    }
}

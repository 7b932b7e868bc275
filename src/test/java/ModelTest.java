import java.util.Random;

/** Random runs of calls, each answered by the program and by the model of the document, which have to agree. */
public final class ModelTest {
    private static final int RUNS = 1500;
    private static final int CALLS = 400;
    private static final int[] ODD = {-1, -2, 1 << 31, Integer.MAX_VALUE, 8, 9, 16, 17, 24, 100, 501, 10000};

    private final Random random;
    private final RankedRing x = new RankedRing();
    private final Model m = new Model();
    private String call = "";
    private int dear = 0;

    private ModelTest(long seed) {
        random = new Random(seed);
    }

    private int upTo(int bound) {
        return random.nextInt(bound);
    }

    private int some(int least, int most) {
        if (upTo(40) == 0) {
            return ODD[upTo(ODD.length)];
        }
        return least + upTo(most - least + 1);
    }

    private int someStation() {
        return some(0, Math.max(0, m.now.size() - 1));
    }

    private String blank() {
        String[] blanks = {" ", " ", " ", "\n", "  "};
        return blanks[upTo(blanks.length)];
    }

    private String name(int of) {
        return of > 0 && upTo(40) > 0 ? String.valueOf((char) ('a' + upTo(of))) : upTo(2) == 0 ? "h" : "abcdefgh";
    }

    private String text() {
        StringBuilder t = new StringBuilder();
        int stations = upTo(60) == 0 ? 9 : upTo(9);
        for (int i = 0; i < stations; i++) {
            t.append("station ").append((char) ('a' + i)).append(blank()).append(i * 37 % 100).append(";");
        }
        if (stations > 0) {
            int lines = upTo(12);
            for (int i = 0; i < lines && t.length() < 440; i++) {
                line(t, stations);
            }
        }
        if (upTo(4) == 0 && t.length() > 0) {
            spoil(t);
        }
        return t.toString();
    }

    private void line(StringBuilder t, int stations) {
        int pick = upTo(12);
        if (pick == 0) {
            t.append("off ").append(name(stations)).append(";");
        } else if (pick <= 2) {
            t.append("monitor ").append(name(stations)).append(blank()).append(";");
        } else if (pick == 3) {
            t.append("break ").append(name(stations)).append(blank()).append(upTo(3)).append(";");
        } else {
            String from = name(stations);
            String to = name(stations);
            if (stations > 1 && upTo(20) > 0) {
                while (to.equals(from)) {
                    to = name(stations);
                }
            }
            t.append("send ").append(from).append(blank()).append(to).append(blank()).append(upTo(8)).append(";\n");
        }
    }

    private void spoil(StringBuilder t) {
        String signs = "az09; \n$A\r{`/:\u00e9send";
        int at = upTo(t.length());
        switch (upTo(4)) {
            case 0 -> t.setCharAt(at, signs.charAt(upTo(signs.length())));
            case 1 -> t.deleteCharAt(at);
            case 2 -> t.insert(at, signs.charAt(upTo(signs.length())));
            default -> t.setLength(at);
        }
    }

    private void same(long got, long want) {
        Check.same(call, got, want);
        Check.same(call + ", its status", x.status(), m.status);
    }

    private void same(boolean got, boolean want) {
        same(got ? 1 : 0, want ? 1 : 0);
    }

    private void feedWords(int[] w) {
        Check.same("feed", x.feed(w[0], w[1], w[2], w[3], w[4]), m.feed(w));
        Check.same("feed, the status behind it", x.status(), m.status);
    }

    private void feedText(String text) {
        for (int at = 0; at < text.length(); at += 20) {
            int[] w = new int[5];
            for (int i = 0; i < 20; i++) {
                int sign = at + i < text.length() ? text.charAt(at + i) & 255 : 0;
                w[i / 4] = w[i / 4] << 8 | sign;
            }
            feedWords(w);
        }
    }

    private void load() {
        if (upTo(10) == 0) {
            feedWords(random.ints(5).toArray());
            return;
        }
        String text = text();
        feedText(text);
        int n = upTo(30) == 0 ? some(0, 500) : text.length();
        call = "load(" + n + ") of " + text;
        same(x.load(n), m.load(n));
        for (int what = -1; what <= 2; what++) {
            Check.same(call + " fault(" + what + ")", x.fault(what), m.fault(what));
        }
    }

    private void act() {
        int a = someStation();
        int b = someStation();
        int c = some(0, 7);
        switch (upTo(18)) {
            case 0, 1, 2, 3 -> {
                call = "send " + a + " " + b + " " + c;
                same(x.send(a, b, c), m.send(a, b, c));
            }
            case 4, 5, 6, 7 -> {
                int n = upTo(3) == 0 ? some(1, 60) : some(1, 3);
                call = "tick " + n;
                same(x.tick(n), m.tick(n));
            }
            case 8 -> {
                int n = some(1, upTo(4) == 0 ? 500 : 30);
                int seed = some(0, 9999);
                int load = some(0, 16);
                call = "run " + n + " " + seed + " " + load;
                same(x.run(n, seed, load), m.run(n, seed, load));
            }
            case 9 -> {
                int address = some(0, 99);
                call = "add " + address;
                same(x.add(address), m.add(address));
            }
            case 10 -> {
                int number = upTo(3) > 0 ? m.now.frames - upTo(6) - 1 : some(0, 30);
                call = "take " + number;
                same(x.take(number), m.take(number));
            }
            case 11 -> {
                call = "shed " + a + " " + c;
                same(x.shed(a, c), m.shed(a, c));
            }
            case 12 -> {
                call = "notice";
                same(x.notice(), m.notice());
            }
            case 13 -> {
                call = "mark";
                same(x.mark(), m.mark());
            }
            case 14 -> {
                call = "back";
                same(x.back(), m.back());
            }
            default -> disturb(a);
        }
    }

    private void disturb(int a) {
        switch (upTo(9)) {
            case 0 -> {
                call = "off " + a;
                same(x.off(a), m.off(a));
            }
            case 1, 2 -> {
                call = "on " + a;
                same(x.on(a), m.on(a));
            }
            case 3, 4 -> {
                call = "monitor " + a;
                same(x.monitor(a), m.monitor(a));
            }
            case 5 -> {
                call = "lose";
                same(x.lose(), m.lose());
            }
            case 6 -> {
                int cause = some(0, 2);
                call = "snap " + a + " " + cause;
                same(x.snap(a, cause), m.snap(a, cause));
            }
            case 7 -> {
                call = "mend";
                same(x.mend(), m.mend());
            }
            default -> load();
        }
    }

    private void ask() {
        int a = someStation();
        int i = some(0, upTo(3) == 0 ? 24 : 3);
        int w = some(0, 9);
        switch (upTo(13)) {
            case 0 -> {
                call = "many " + i;
                same(x.many(i), m.many(i));
            }
            case 1 -> {
                call = "station " + a + " " + w;
                same(x.station(a, w), m.station(a, w));
            }
            case 2 -> {
                w = some(0, 2);
                call = "waits " + a + " " + i + " " + w;
                same(x.waits(a, i, w), m.waits(a, i, w));
            }
            case 3 -> {
                call = "way " + w;
                same(x.way(w), m.way(w));
            }
            case 4 -> {
                w = some(0, 2);
                call = "beacon " + w;
                same(x.beacon(w), m.beacon(w));
            }
            case 5 -> {
                call = "been " + w;
                same(x.been(w), m.been(w));
            }
            case 6 -> {
                w = some(0, 5);
                call = "got " + i + " " + w;
                same(x.got(i, w), m.got(i, w));
            }
            case 7 -> {
                w = some(0, 1);
                call = "raise " + a + " " + i + " " + w;
                same(x.raise(a, i, w), m.raise(a, i, w));
            }
            case 8 -> {
                w = some(0, 2);
                call = "event " + i + " " + w;
                same(x.event(i, w), m.event(i, w));
            }
            case 9 -> {
                w = some(0, 2);
                call = "ranks " + i + " " + w;
                same(x.ranks(i, w), m.ranks(i, w));
            }
            case 10 -> {
                int b = someStation();
                call = "hops " + a + " " + b;
                same(x.hops(a, b), m.hops(a, b));
            }
            case 11 -> {
                call = "heir";
                same(x.heir(), m.heir());
            }
            default -> {
                call = "stale";
                same(x.stale(), m.stale());
            }
        }
    }

    private void foresee() {
        boolean plain = random.nextBoolean();
        switch (upTo(9)) {
            case 0 -> {
                call = "quiet " + plain;
                same(x.quiet(plain), m.quiet(plain));
            }
            case 1 -> {
                int number = upTo(3) > 0 ? m.now.frames - upTo(8) - 1 : some(0, 30);
                call = "when " + number + " " + plain;
                same(x.when(number, plain), m.when(number, plain));
            }
            case 2 -> {
                int i = some(0, 12);
                call = "next " + i + " " + plain;
                same(x.next(i, plain), m.next(i, plain));
            }
            case 3 -> {
                call = "peak";
                same(x.peak(), m.peak());
            }
            case 4 -> {
                call = "lowered";
                same(x.lowered(), m.lowered());
            }
            case 5 -> {
                call = "healed";
                same(x.healed(), m.healed());
            }
            case 6 -> {
                call = "purged";
                same(x.purged(), m.purged());
            }
            case 7 -> {
                call = "blamed";
                same(x.blamed(), m.blamed());
            }
            default -> gain();
        }
    }

    /** The model takes long for it: not often. */
    private void gain() {
        if (dear < 2) {
            dear++;
            call = "gain";
            same(x.gain(), m.gain());
        }
    }

    private void all() {
        call = "all";
        for (int what = 0; what <= 10; what++) {
            same(x.many(what), m.many(what));
            same(x.been(what), m.been(what));
            same(x.way(what), m.way(what));
            for (int s = 0; s < m.now.size(); s++) {
                same(x.station(s, what), m.station(s, what));
            }
        }
        for (int i = 0; i < 24; i++) {
            for (int what = 0; what < 6; what++) {
                same(x.event(i, what), m.event(i, what));
                same(x.got(i, what), m.got(i, what));
                same(x.ranks(i, what), m.ranks(i, what));
                same(x.waits(i % 8, i / 8, what), m.waits(i % 8, i / 8, what));
                same(x.raise(i % 8, i / 8, what), m.raise(i % 8, i / 8, what));
            }
        }
    }

    private void go() {
        feedText(text());
        int n = m.now.tape.length();
        call = "load " + n;
        same(x.load(n), m.load(n));
        for (int i = 0; i < CALLS; i++) {
            int pick = upTo(20);
            if (pick < 9) {
                act();
            } else if (pick < 18) {
                ask();
            } else {
                foresee();
            }
        }
        all();
    }

    public static void main(String[] args) {
        int runs = args.length > 0 ? Integer.parseInt(args[0]) : RUNS;
        long from = args.length > 1 ? Long.parseLong(args[1]) : 1;
        for (int i = 0; i < runs; i++) {
            new ModelTest(from + i).go();
        }
        Check.end("ModelTest");
    }
}

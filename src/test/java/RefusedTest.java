import java.util.function.Predicate;
import java.util.function.Supplier;
import java.util.function.ToIntFunction;

/** Section 5: calls that are refused, by their STATUS; they give NONE, or false, and change nothing else. */
public final class RefusedTest {
    private static final String THREE = "station a 5;station b 9;station c 7;";
    private static final int LEAST = Integer.MIN_VALUE;
    private static final int MOST = Integer.MAX_VALUE;

    private final String state;
    private final Supplier<RankedRing> maker;

    private RefusedTest(String state, Supplier<RankedRing> maker) {
        this.state = state;
        this.maker = maker;
    }

    public static void main(String[] args) {
        empty();
        silent();
        claim();
        beacon();
        token();
        frame();
        eight();
        Check.end("RefusedTest");
    }

    private void none(int status, String name, ToIntFunction<RankedRing> call) {
        RankedRing x = maker.get();
        Check.refused("s5 " + state + ", " + name, x, call.applyAsInt(x), status);
        Look.sameThrough("s5 " + state + ", nothing else by " + name, x, maker.get());
    }

    private void no(int status, String name, Predicate<RankedRing> call) {
        RankedRing x = maker.get();
        Check.refused("s5 " + state + ", " + name, x, call.test(x), status);
        Look.sameThrough("s5 " + state + ", nothing else by " + name, x, maker.get());
    }

    /** Numbers that can't be: in every state, and ahead of all else. */
    private void badNumbers() {
        for (int bad : new int[] {-1, 501, LEAST, MOST}) {
            none(1, "p04 load " + bad, x -> x.load(bad));
            none(1, "p28 tick " + bad, x -> x.tick(bad));
            none(1, "p29 run of " + bad, x -> x.run(bad, 5, 5));
        }
        none(1, "p28 tick 0", x -> x.tick(0));
        none(1, "p29 run of 0", x -> x.run(0, 5, 5));
        for (int bad : new int[] {-1, 10_000, LEAST, MOST}) {
            none(1, "p29 seed " + bad, x -> x.run(5, bad, 5));
        }
        for (int bad : new int[] {-1, 17, LEAST, MOST}) {
            none(1, "p29 load " + bad, x -> x.run(5, 5, bad));
        }
        for (int bad : new int[] {-1, 100, LEAST, MOST}) {
            none(1, "p18 add " + bad, x -> x.add(bad));
        }
        for (int bad : new int[] {-1, LEAST}) {
            none(1, "p20 take " + bad, x -> x.take(bad));
            none(1, "p35 when " + bad, x -> x.when(bad, false));
            none(1, "p35 when, plain " + bad, x -> x.when(bad, true));
            none(1, "p36 next " + bad, x -> x.next(bad, false));
            none(1, "p36 next, plain " + bad, x -> x.next(bad, true));
            none(1, "p08 waits, i " + bad, x -> x.waits(0, bad, 0));
            none(1, "p13 raise, i " + bad, x -> x.raise(0, bad, 0));
        }
        for (int bad : new int[] {-1, 16, LEAST, MOST}) {
            none(1, "p12 got, i " + bad, x -> x.got(bad, 0));
        }
        for (int bad : new int[] {-1, 24, LEAST, MOST}) {
            none(1, "p14 event, i " + bad, x -> x.event(bad, 0));
        }
        badRanks();
        badWhats();
    }

    private void badRanks() {
        for (int bad : new int[] {-1, 8, LEAST, MOST}) {
            none(1, "p15 ranks " + bad, x -> x.ranks(bad, 0));
            none(1, "p19 rank " + bad, x -> x.send(0, 1, bad));
            none(1, "p19 1 ahead of 2, rank " + bad, x -> x.send(9, 9, bad));
            none(1, "p19 1 ahead of 8, rank " + bad, x -> x.send(0, 0, bad));
        }
        for (int bad : new int[] {-1, 9, LEAST, MOST}) {
            none(1, "p21 shed below " + bad, x -> x.shed(0, bad));
            none(1, "p21 1 ahead of 2, shed below " + bad, x -> x.shed(-1, bad));
        }
        for (int bad : new int[] {-1, 3, LEAST, MOST}) {
            no(1, "p26 cause " + bad, x -> x.snap(0, bad));
            no(1, "p26 1 ahead of 2, cause " + bad, x -> x.snap(9, bad));
        }
    }

    private void badWhats() {
        for (int bad : new int[] {-1, 11, LEAST, MOST}) {
            none(1, "p06 many " + bad, x -> x.many(bad));
        }
        for (int bad : new int[] {-1, 10, LEAST, MOST}) {
            none(1, "p07 station, what " + bad, x -> x.station(0, bad));
            none(1, "p07 1 ahead of 2, what " + bad, x -> x.station(9, bad));
            none(1, "p09 way " + bad, x -> x.way(bad));
            none(1, "p11 been " + bad, x -> x.been(bad));
        }
        for (int bad : new int[] {-1, 6, LEAST, MOST}) {
            none(1, "p12 got, what " + bad, x -> x.got(0, bad));
        }
        for (int bad : new int[] {-1, 3, LEAST, MOST}) {
            none(1, "p08 waits, what " + bad, x -> x.waits(0, 0, bad));
            none(1, "p08 1 ahead of 2 and 5, what " + bad, x -> x.waits(9, 9, bad));
            none(1, "p10 beacon " + bad, x -> x.beacon(bad));
            none(1, "p14 event, what " + bad, x -> x.event(0, bad));
            none(1, "p15 ranks, what " + bad, x -> x.ranks(0, bad));
        }
        for (int bad : new int[] {-1, 2, LEAST, MOST}) {
            none(1, "p13 raise, what " + bad, x -> x.raise(0, 0, bad));
            none(1, "p13 1 ahead of 2 and 5, what " + bad, x -> x.raise(9, 9, bad));
        }
        none(1, "p08 1 ahead of 2, i", x -> x.waits(9, -1, 0));
        none(1, "p13 1 ahead of 2, i", x -> x.raise(9, -1, 0));
    }

    /** Stations that there are not: the number of them, 8, and below 0; 0 is one where it is given. */
    private void noStations(int count) {
        for (int bad : new int[] {-1, count, 8, LEAST, MOST}) {
            none(2, "p07 station " + bad, x -> x.station(bad, 0));
            none(2, "p08 waits " + bad, x -> x.waits(bad, 0, 0));
            none(2, "p08 2 ahead of 5, waits " + bad, x -> x.waits(bad, 9, 2));
            none(2, "p13 raise " + bad, x -> x.raise(bad, 0, 0));
            none(2, "p13 2 ahead of 5, raise " + bad, x -> x.raise(bad, 9, 1));
            none(2, "p16 hops from " + bad, x -> x.hops(bad, 0));
            none(2, "p16 hops to " + bad, x -> x.hops(0, bad));
            none(2, "p16 hops round from " + bad, x -> x.hops(bad, bad));
            none(2, "p19 send from " + bad, x -> x.send(bad, 0, 0));
            none(2, "p19 send to " + bad, x -> x.send(0, bad, 0));
            none(2, "p19 2 ahead of 8, send at " + bad, x -> x.send(bad, bad, 7));
            none(2, "p21 shed at " + bad, x -> x.shed(bad, 8));
            no(2, "p22 off " + bad, x -> x.off(bad));
            no(2, "p23 on " + bad, x -> x.on(bad));
            no(2, "p24 monitor " + bad, x -> x.monitor(bad));
            no(2, "p26 snap behind " + bad, x -> x.snap(bad, 0));
        }
    }

    private void nothingOnItsWay() {
        for (int what = 1; what <= 9; what++) {
            int asked = what;
            none(6, "p09 way " + what, x -> x.way(asked));
        }
        no(6, "p25 lose", x -> x.lose());
    }

    private void noBeacon() {
        none(5, "p10 no TAIL", x -> x.beacon(1));
        none(5, "p10 no HEAD", x -> x.beacon(2));
    }

    private void neither(int number) {
        none(5, "p20 take " + number, x -> x.take(number));
        none(5, "p35 when " + number, x -> x.when(number, false));
        none(5, "p35 when, plain " + number, x -> x.when(number, true));
    }

    private static void empty() {
        RefusedTest t = new RefusedTest("empty", RankedRing::new);
        t.badNumbers();
        t.noStations(0);
        t.nothingOnItsWay();
        t.noBeacon();
        t.neither(0);
        t.neither(MOST);
        t.none(1, "p04 load 1 of an empty tape", x -> x.load(1));
        t.none(5, "p12 got", x -> x.got(0, 0));
        t.none(5, "p12 got, the 16th", x -> x.got(15, 5));
        t.none(5, "p14 event", x -> x.event(0, 0));
        t.none(5, "p14 event, the 24th", x -> x.event(23, 2));
        t.none(5, "p17 heir", x -> x.heir());
        t.none(5, "p30 5 ahead of 6, notice", x -> x.notice());
        t.none(5, "p33 back", x -> x.back());
        t.no(5, "p27 mend", x -> x.mend());
        t.none(7, "p36 next", x -> x.next(0, false));
        t.none(7, "p36 next, plain", x -> x.next(MOST, true));
        t.none(7, "p39 healed", x -> x.healed());
        t.none(7, "p40 purged", x -> x.purged());
        t.none(7, "p41 blamed", x -> x.blamed());
    }

    /** Two ticks of silence; a's frame goes to b, which is off, c's frame to a. */
    private static RankedRing makeSilent() {
        RankedRing x = Texts.ring(THREE + "monitor a;off b;send a b 3;send c a 7;");
        x.mark();
        x.tick(2);
        x.feed(1, 2, 3, 4, 5);
        return x;
    }

    private static void silent() {
        RefusedTest t = new RefusedTest("silent", RefusedTest::makeSilent);
        t.badNumbers();
        t.noStations(3);
        t.nothingOnItsWay();
        t.noBeacon();
        t.neither(2);
        t.none(1, "p04 load of one byte more than there are", x -> x.load(21));
        t.no(4, "p22 off, which is off", x -> x.off(1));
        t.no(4, "p23 on, which is on", x -> x.on(2));
        t.no(4, "p24 the monitor", x -> x.monitor(0));
        t.none(5, "p08 no second one waits", x -> x.waits(0, 1, 0));
        t.none(5, "p08 none waits", x -> x.waits(1, 0, 2));
        t.none(5, "p13 no raises", x -> x.raise(2, 0, 1));
        t.none(5, "p16 hops to one that is off", x -> x.hops(0, 1));
        t.none(5, "p16 hops round to one that is off", x -> x.hops(1, 1));
        t.no(5, "p27 mend", x -> x.mend());
        t.none(6, "p30 notice", x -> x.notice());
        t.none(7, "p35 it will be missed", x -> x.when(0, false));
        t.none(7, "p35 it will be missed, plain", x -> x.when(0, true));
        t.none(7, "p36 one alone is got", x -> x.next(1, false));
        t.none(7, "p41 nobody to blame", x -> x.blamed());
        for (int address : new int[] {5, 9, 7}) {
            t.none(8, "p18 taken, " + address, x -> x.add(address));
        }
        for (int station = 0; station < 3; station++) {
            int it = station;
            t.none(8, "p19 to itself, " + it, x -> x.send(it, it, 0));
        }
    }

    private static RankedRing makeClaim() {
        RankedRing x = Texts.ring(THREE + "send b a 0;");
        x.tick(5);
        Check.same("s5 a claim stands", x.beacon(0), 1);
        return x;
    }

    private static void claim() {
        RefusedTest t = new RefusedTest("claim", RefusedTest::makeClaim);
        t.badNumbers();
        t.noStations(3);
        t.nothingOnItsWay();
        t.noBeacon();
        t.none(5, "p30 5 ahead of 6, no monitor", x -> x.notice());
        t.no(4, "p23 on", x -> x.on(0));
        t.none(8, "p18 taken", x -> x.add(7));
    }

    private static RankedRing makeBeacon() {
        RankedRing x = Texts.ring(THREE + "send b a 0;break c 2;off a;");
        x.tick(5);
        Check.same("s5 a beacon stands", x.beacon(0), 2);
        return x;
    }

    private static void beacon() {
        RefusedTest t = new RefusedTest("beacon", RefusedTest::makeBeacon);
        t.badNumbers();
        t.noStations(3);
        t.nothingOnItsWay();
        for (int station = 0; station < 3; station++) {
            int it = station;
            t.no(3, "p26 a break more, " + it, x -> x.snap(it, 2));
            t.none(3, "p16 it lies between, round from " + it, x -> x.hops(it, it));
        }
        t.none(3, "p16 it lies between", x -> x.hops(2, 1));
        t.none(3, "p16 3 ahead of 5", x -> x.hops(1, 0));
        t.none(3, "p30 3 ahead of 5 and 6", x -> x.notice());
        t.none(7, "p34 never quiet", x -> x.quiet(false));
        t.none(7, "p34 never quiet, plain", x -> x.quiet(true));
        t.none(7, "p35 never got", x -> x.when(0, false));
        t.none(7, "p36 none is got", x -> x.next(0, true));
        t.none(7, "p37 never quiet", x -> x.peak());
        t.none(7, "p39 never healed", x -> x.healed());
        t.none(7, "p40 never purged", x -> x.purged());
        t.none(7, "p41 the cable", x -> x.blamed());
    }

    /** A token of level 2 with a raise at b; six wait at a; four marks; a full tape. */
    private static RankedRing makeToken() {
        RankedRing x = Texts.ring(THREE + "monitor a;send b c 4;send b a 2;");
        x.tick(8);
        for (int i = 0; i < 6; i++) {
            x.send(0, 1 + i % 2, i);
        }
        for (int i = 0; i < 4; i++) {
            x.mark();
        }
        for (int i = 0; i < 25; i++) {
            x.feed(0x6f666620, i, i, i, i);
        }
        return x;
    }

    private static void token() {
        RefusedTest t = new RefusedTest("token", RefusedTest::makeToken);
        t.badNumbers();
        t.noStations(3);
        t.noBeacon();
        t.neither(0);
        t.neither(8);
        t.none(3, "p19 a seventh", x -> x.send(0, 1, 0));
        t.none(3, "p19 3 ahead of 8", x -> x.send(0, 0, 7));
        t.none(2, "p19 2 ahead of 3", x -> x.send(0, 3, 7));
        t.none(1, "p19 1 ahead of 3", x -> x.send(0, 1, 8));
        t.none(3, "p32 a fifth", x -> x.mark());
        t.none(5, "p08 no seventh", x -> x.waits(0, 6, 0));
        t.none(5, "p12 one was got", x -> x.got(1, 0));
        t.none(5, "p13 one raise", x -> x.raise(1, 1, 0));
        t.none(5, "p14 two events", x -> x.event(2, 0));
        for (int what = 5; what <= 9; what++) {
            int asked = what;
            t.none(6, "p09 a token has none, " + what, x -> x.way(asked));
        }
        RankedRing x = makeToken();
        Check.same("p03 the tape is full", x.feed(0, 0, 0, 0, 0), -1);
        Look.sameThrough("p03 nothing by feed", x, makeToken());
    }

    /** The frame of c, marked, copied and wished for, with a break that does not count. */
    private static RankedRing makeFrame() {
        RankedRing x = Texts.ring(THREE + "monitor a;off b;send c a 1;break b 0;");
        x.tick(4);
        x.send(0, 1, 5);
        x.tick(1);
        Check.same("s5 a frame", x.way(4) * 100 + x.way(8) * 10 + x.way(3), 115);
        return x;
    }

    private static void frame() {
        RefusedTest t = new RefusedTest("frame", RefusedTest::makeFrame);
        t.badNumbers();
        t.noStations(3);
        t.noBeacon();
        t.no(3, "p26 there is one, though it counts not", x -> x.snap(2, 2));
        t.no(1, "p26 1 ahead of 3", x -> x.snap(2, 3));
        t.no(2, "p26 2 ahead of 3", x -> x.snap(3, 2));
        t.no(4, "p22 off", x -> x.off(1));
        t.no(4, "p23 on", x -> x.on(0));
        t.no(4, "p24 monitor", x -> x.monitor(0));
        t.none(6, "p30 a frame is no token", x -> x.notice());
        t.none(5, "p20 it waits no more", x -> x.take(0));
        t.none(5, "p16 off", x -> x.hops(2, 1));
    }

    private static RankedRing makeEight() {
        StringBuilder text = new StringBuilder("");
        for (int i = 0; i < 8; i++) {
            text.append("station ").append((char) ('a' + i)).append(' ').append(i * 14).append(';');
        }
        return Texts.ring(text + "monitor h;");
    }

    private static void eight() {
        RefusedTest t = new RefusedTest("eight", RefusedTest::makeEight);
        t.badNumbers();
        t.noStations(8);
        t.none(3, "p18 a ninth", x -> x.add(1));
        t.none(3, "p18 3 ahead of 8", x -> x.add(98));
        t.none(1, "p18 1 ahead of 3", x -> x.add(100));
        t.none(6, "p30 notice", x -> x.notice());
    }
}

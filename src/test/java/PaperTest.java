/** Promises 34 to 42: on paper, and that all stays as it is. */
public final class PaperTest {
    private static final String THREE = "station a 5;station b 9;station c 7;";

    public static void main(String[] args) {
        quiet();
        when();
        next();
        peak();
        lowered();
        healed();
        purged();
        blamed();
        gain();
        allStays();
        plainly();
        purgedLater();
        nowAndNext();
        limit();
        Check.end("PaperTest");
    }

    /**
     * Behind 6 ticks b's frame 0 (rank 0, to a) is on its way, at b. Then 1 (rank 2) waits at c and 2 (rank 5) at a.
     * By wishes a's is got next; plain c's is, for the token comes by c ahead of a.
     */
    private static RankedRing busy() {
        RankedRing x = Texts.ring(THREE + "monitor c;send b a 0;");
        x.tick(4);
        x.tick(2);
        x.send(2, 1, 2);
        x.send(0, 1, 5);
        return x;
    }

    private static void quiet() {
        RankedRing x = Texts.ring(THREE + "monitor a;");
        Check.same("p34 it is", x, x.quiet(false), 0, 0);
        x.send(1, 2, 3);
        // purge at 4, taken at 5, got at 8
        Check.same("p34 eight", x, x.quiet(false), 8, 0);
        Check.same("p34 eight, plain", x, x.quiet(true), 8, 0);
        x.tick(5);
        Check.same("p34 on its way", x, x.quiet(false), 3, 0);
        x.tick(3);
        Check.same("p34 got", x, x.quiet(true), 0, 0);
        x.off(1);
        x.send(1, 0, 2);
        Check.same("p34 it waits where it is off", x, x.quiet(false), 0, 0);
        x.send(0, 2, 2);
        x.snap(2, 2);
        Check.refused("p34 never", x, x.quiet(false), 7);
        Check.refused("p34 never, plain", x, x.quiet(true), 7);
        RankedRing y = Texts.ring(THREE + "monitor a;send b c 4;");
        y.tick(5);
        y.off(2);
        y.off(1);
        Check.same("p34 lost by a purge", y, y.quiet(false), 2, 0);
    }

    private static void when() {
        // frame 0 is at b again at tick 9, by c and a
        RankedRing x = busy();
        Check.same("p35 on its way at c", x.way(1), 1);
        Check.same("p35 on its way", x, x.when(0, false), 3, 0);
        // wish 2 at c, 5 at a, got at b (9): level 5; c marks, a takes at 11, got at 14
        Check.same("p35 a's, wished", x, x.when(2, false), 8, 0);
        // plain: got at b (9) at level 0; c takes at 10, got at 13; a takes at 14, got at 17
        Check.same("p35 a's, plain", x, x.when(2, true), 11, 0);
        Check.same("p35 c's, plain", x, x.when(1, true), 7, 0);
        // wished: token at a (14) of level 5, wish 2 by c; lowered at b (15) to 2; taken at c (16), got at 19
        Check.same("p35 c's, wished", x, x.when(1, false), 13, 0);
        Check.refused("p35 below 0", x, x.when(-1, false), 1);
        Check.refused("p35 it never was", x, x.when(3, true), 5);
        x.tick(3);
        Check.refused("p35 it was got", x, x.when(0, false), 5);
        x.off(0);
        Check.refused("p35 it waits where it is off", x, x.when(2, false), 7);
        x.on(0);
        x.off(1);
        Check.refused("p35 missed", x, x.when(2, false), 7);
    }

    private static void next() {
        RankedRing x = busy();
        Check.same("p36 first", x, x.next(0, false), 0, 0);
        Check.same("p36 second", x, x.next(1, false), 2, 0);
        Check.same("p36 third", x, x.next(2, false), 1, 0);
        Check.same("p36 first, plain", x, x.next(0, true), 0, 0);
        Check.same("p36 second, plain", x, x.next(1, true), 1, 0);
        Check.same("p36 third, plain", x, x.next(2, true), 2, 0);
        Check.refused("p36 no fourth", x, x.next(3, false), 7);
        Check.refused("p36 far", x, x.next(Integer.MAX_VALUE, true), 7);
        Check.refused("p36 below 0", x, x.next(-1, true), 1);
        x.tick(3);
        Check.same("p36 from now on", x.next(0, false), 2);
    }

    private static void peak() {
        RankedRing x = Texts.ring(THREE + "monitor a;");
        Check.same("p37 quiet", x, x.peak(), 0, 0);
        x = busy();
        Check.same("p37 five", x, x.peak(), 5, 0);
        x.tick(3);
        Check.same("p37 that of now", x, x.peak(), 5, 0);
        x.tick(6);
        Check.same("p37 two", x, x.peak(), 2, 0);
        x.tick(4);
        Check.same("p37 quiet at its level", x, x.peak(), x.way(2), 0);
        Check.same("p37 which is 2", x.peak(), 2);
        // A wish of one that is off then: quiet with the token of its level.
        RankedRing y = busy();
        y.tick(2);
        y.off(0);
        y.shed(2, 8);
        Check.same("p37 that of the quiet tick, too", y, y.peak(), 5, 0);
        y.snap(0, 2);
        y.send(2, 1, 4);
        Check.refused("p37 never quiet", y, y.peak(), 7);
    }

    private static void lowered() {
        RankedRing x = busy();
        Check.same("p38 there are none", x, x.lowered(), 0, 0);
        x.tick(3);
        // b raised at 9 from 0 to 5, to 2 at 15, and at 21 to 0
        Check.same("p38 a raise", x.station(1, 4), 1);
        Check.same("p38 lowered", x, x.lowered(), 12, 0);
        x.tick(12);
        Check.same("p38 lowered then", x.station(1, 4) + x.way(2), 0);
        RankedRing y = busy();
        y.tick(3);
        y.snap(2, 2);
        Check.refused("p38 never", y, y.lowered(), 7);
        y.off(1);
        Check.same("p38 that go with a station", y, y.lowered(), 0, 0);
    }

    private static void healed() {
        RankedRing x = new RankedRing();
        Check.refused("p39 no stations", x, x.healed(), 7);
        Texts.load(x, THREE + "monitor a;send b c 1;");
        Check.same("p39 a purge", x, x.healed(), 4, 0);
        x.tick(4);
        Check.same("p39 it is", x, x.healed(), 0, 0);
        x.tick(1);
        Check.same("p39 a frame comes round", x, x.healed(), 3, 0);
        x.snap(1, 1);
        // lost at 6, a beacon at 10, c off at 14, a purge at 17
        Check.same("p39 by a beacon", x, x.healed(), 12, 0);
        x.mend();
        x.snap(1, 2);
        Check.refused("p39 never", x, x.healed(), 7);
    }

    private static void purged() {
        RankedRing x = Texts.ring(THREE + "monitor a;");
        Check.same("p40 four", x, x.purged(), 4, 0);
        x.tick(4);
        Check.refused("p40 none", x, x.purged(), 7);
        x.monitor(1);
        x.lose();
        x.off(1);
        // a claim at 3, a monitor at 5
        Check.same("p40 by a claim", x, x.purged(), 5, 0);
        RankedRing y = busy();
        y.tick(3);
        y.off(1);
        y.shed(0, 8);
        y.shed(2, 8);
        Check.same("p40 a level that nobody lowers", y, y.purged(), 3, 0);
    }

    private static void blamed() {
        RankedRing x = Texts.ring(THREE + "monitor a;break b 0;");
        Check.same("p41 the tail", x, x.blamed(), 1, 0);
        x.mend();
        x.snap(1, 1);
        Check.same("p41 the head", x, x.blamed(), 2, 0);
        x.off(2);
        Check.refused("p41 it does not count", x, x.blamed(), 7);
        x.mend();
        x.snap(1, 2);
        Check.refused("p41 the cable", x, x.blamed(), 7);
        x.mend();
        Check.refused("p41 no break", x, x.blamed(), 7);
    }

    private static void gain() {
        RankedRing x = busy();
        // a's 3 sooner, c's 6 later
        Check.same("p42 later by 3", x, x.gain(), -3, 0);
        x.take(1);
        Check.same("p42 a's alone", x, x.gain(), x.when(2, true) - x.when(2, false), 0);
        RankedRing y = Texts.ring(THREE);
        Check.same("p42 none", y, y.gain(), 0, 0);
        y.send(0, 1, 1);
        y.snap(0, 2);
        Check.same("p42 never got", y, y.gain(), 0, 0);
        sums();
    }

    private static RankedRing six(int seed) {
        RankedRing x = Texts.ring(THREE + "station d 1;station e 2;station f 3;monitor a;");
        x.run(20 + seed % 7, seed, 5);
        x.shed(seed % 6, seed % 8);
        x.shed((seed + 1) % 6, seed % 8);
        return x;
    }

    /** Compares the gain with the sum over all; answers how many are got on one of the two ways alone. */
    private static int sum(String what, RankedRing x) {
        int sum = 0;
        int oneWay = 0;
        for (int number = 0; number < x.many(4); number++) {
            if (x.way(0) == 2 && x.way(9) == number) {
                continue;
            }
            int soon = x.when(number, false);
            boolean reached = x.status() == 0;
            int plain = x.when(number, true);
            boolean reachedPlain = x.status() == 0;
            sum += reached && reachedPlain ? plain - soon : 0;
            oneWay += reached != reachedPlain ? 1 : 0;
        }
        Check.same(what, x, x.gain(), sum, 0);
        return oneWay;
    }

    /** A break takes one frame by wishes and another one plain. */
    private static void onOneWay() {
        int oneWay = 0;
        for (int seed = 0; seed < 300; seed++) {
            RankedRing x = six(seed);
            x.snap(seed % 6, seed % 2);
            oneWay += sum("p42 gain of seed " + seed + " with a break", x);
        }
        Check.same("p42 some are got on one way alone", oneWay > 0, true);
    }

    private static void sums() {
        for (int seed = 1700; seed < 1800; seed++) {
            sum("p42 gain of seed " + seed, six(seed));
        }
        onOneWay();
        RankedRing sooner = six(1766);
        Check.same("p42 sooner", sooner, sooner.gain(), 6, 0);
    }

    private static void askAll(RankedRing x) {
        x.quiet(false);
        x.quiet(true);
        x.when(1, false);
        x.when(1, true);
        x.next(1, false);
        x.next(1, true);
        x.peak();
        x.lowered();
        x.healed();
        x.purged();
        x.blamed();
        x.gain();
    }

    /** At each tick of a ring with a frame, raises, a break, a beacon and a fall. */
    private static RankedRing staged(int ticks) {
        RankedRing x = busy();
        x.tick(3);
        x.notice();
        x.tick(ticks % 10 + 1);
        if (ticks >= 10) {
            x.snap(1, 1);
            x.tick(ticks - 9);
        }
        return x;
    }

    private static void allStays() {
        for (int ticks = 0; ticks < 30; ticks++) {
            RankedRing x = staged(ticks);
            askAll(x);
            Look.sameThrough("s4 all stays as it is, " + ticks, x, staged(ticks));
        }
        RankedRing x = new RankedRing();
        askAll(x);
        Look.sameThrough("s4 a new one stays as it is", x, new RankedRing());
    }

    /** At tick 7 a's frame 0 is at b, with the wish 5 for b's frame 1; then 2 of rank 7 waits at a. */
    private static RankedRing wished() {
        RankedRing x = Texts.ring(THREE + "station z 99;monitor z;");
        x.tick(5);
        x.off(3);
        x.send(0, 1, 2);
        x.tick(1);
        x.send(1, 0, 5);
        x.tick(1);
        x.send(0, 2, 7);
        Check.way("s4 a wish", x, 2, 1, 0, 5, 0, 0, 1, 2, 1, 0);
        return x;
    }

    /** The wish of now stays; no other one rises, not even that for the first where it is got. */
    private static void plainly() {
        RankedRing x = wished();
        // a (9) raises to 5; b takes at 10, got at 13; a (15) lowers to 0 and takes, got at 18
        Check.same("p35 b's, plain", x, x.when(1, true), 6, 0);
        Check.same("p35 a's, plain", x, x.when(2, true), 11, 0);
        Check.same("p36 b's is the next but one, plain", x, x.next(1, true), 1, 0);
        Check.same("p34 plain", x, x.quiet(true), 11, 0);
        // a (9) raises to 7; a (12) lowers to 5 and takes, got at 15; b takes at 16, got at 19
        Check.same("p35 b's", x, x.when(1, false), 12, 0);
        Check.same("p35 a's", x, x.when(2, false), 8, 0);
        Check.same("p36 a's is the next but one", x, x.next(1, false), 2, 0);
        Check.same("p34 by wishes", x, x.quiet(false), 12, 0);
        Check.same("p35 that on its way", x, x.when(0, false) * 10 + x.when(0, true), 22, 0);
        Check.same("p42 a's 3 sooner, b's 6 later", x, x.gain(), -3, 0);
        Check.same("p37 by wishes alone", x, x.peak(), 7, 0);
        Check.same("p38 there are none yet", x, x.lowered(), 0, 0);
        x.tick(2);
        Check.same("p38 raised now", x.station(0, 4), 1);
        // a (12) lowers to 5, and takes; b takes at 16, got at 19; a (21) lowers to 0
        Check.same("p38 twelve", x, x.lowered(), 12, 0);
        x.tick(11);
        Check.same("p38 a couple still", x, x.lowered(), 1, 0);
        x.tick(1);
        Check.same("p38 none then", x, x.lowered(), 0, 0);
    }

    /** A level that nobody lowers; a wish makes b raise it, and lower it again unmarked: a later purge. */
    private static void purgedLater() {
        RankedRing x = Texts.ring(THREE + "monitor a;send b c 4;send b a 2;");
        x.tick(8);
        x.off(1);
        x.on(1);
        x.take(1);
        x.tick(1);
        x.send(1, 0, 7);
        x.send(2, 0, 3);
        Check.way("s4 level 2, at c", x, 1, 2, 2, 0, 0);
        // marked at 10, taken at b (11), got there (14) and raised to 3, taken at c (15), got there (18), marked (19),
        // lowered at b (20), marked at a (22), purged (25); plain it is purged at 22
        Check.same("p40 by wishes", x, x.purged(), 16, 0);
        x.tick(16);
        Check.same("p40 then", x.event(0, 0) * 100 + x.event(0, 1), 325);
    }

    /** Each of them is of now, or of one tick from now. */
    private static void nowAndNext() {
        RankedRing x = Texts.ring("station a 5;monitor a;");
        Check.same("p39 two ticks", x, x.healed(), 2, 0);
        Check.same("p40 two ticks", x, x.purged(), 2, 0);
        x.tick(1);
        Check.same("p39 one tick", x, x.healed(), 1, 0);
        Check.same("p40 one tick", x, x.purged(), 1, 0);
        x.tick(1);
        Check.same("p39 it is", x, x.healed(), 0, 0);
        Check.refused("p40 that of now is none to come", x, x.purged(), 7);
        x = Texts.ring(THREE + "monitor b;send b a 1;");
        x.tick(9);
        Check.same("p34 one tick", x, x.quiet(false) * 10 + x.quiet(true), 11, 0);
        Check.same("p35 one tick", x, x.when(0, false) * 10 + x.when(0, true), 11, 0);
        Check.same("p36 it is the next", x, x.next(0, false) * 10 + x.next(0, true), 0, 0);
        Check.refused("p36 the only one", x, x.next(1, false), 7);
        x = Texts.ring("station a 5;break a 0;");
        x.tick(2);
        Check.same("p41 one tick", x, x.blamed(), 0, 0);
        x.tick(1);
        Check.refused("p41 that of now is none to come", x, x.blamed(), 7);
        x = Texts.ring(THREE + "monitor a;send b c 4;send b a 2;");
        x.tick(8);
        x.take(1);
        x.tick(2);
        Check.same("p38 one tick", x, x.lowered(), 1, 0);
        x.tick(1);
        Check.same("p38 there are none", x, x.lowered(), 0, 0);
    }

    /** The 3,000th tick counts, no later one does. */
    private static void limit() {
        for (int number = 0; number < 48; number++) {
            RankedRing x = eight();
            x.mark();
            int waited = x.when(number, false);
            if (x.status() == 0) {
                Check.same("p35 within 3,000", waited >= 1 && waited <= 3000, true);
                for (int left = waited; left > 0; left -= Math.min(left, 500)) {
                    x.tick(Math.min(left, 500));
                }
                Check.same("p35 got then", x.got(0, 0), number);
                Check.same("p35 at that tick", x.got(0, 4) - waited, 0);
            }
        }
    }

    private static RankedRing eight() {
        StringBuilder t = new StringBuilder();
        for (int i = 0; i < 8; i++) {
            t.append("station ").append((char) ('a' + i)).append(" ").append(i).append(";");
        }
        RankedRing x = Texts.ring(t + "monitor d;");
        for (int i = 0; i < 48; i++) {
            x.send(i % 8, (i + 1 + i / 8) % 8, i * 5 % 8);
        }
        return x;
    }
}

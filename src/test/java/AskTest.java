/** Promises 6 to 17: what there is. */
public final class AskTest {
    private static final String THREE = "station a 5;station b 9;station c 7;";

    public static void main(String[] args) {
        many();
        station();
        waits();
        way();
        beacon();
        been();
        got();
        raise();
        event();
        ranks();
        hops();
        heir();
        Check.end("AskTest");
    }

    private static void many() {
        RankedRing x = Texts.ring(THREE + "off b;monitor c;send a b 1;send b c 2;break a 1;");
        int[] due = {3, 5, 2, 2, 2, 0, 0, 0, 0, 0, 1};
        for (int what = 0; what < due.length; what++) {
            Check.same("p06 many " + what, x, x.many(what), due[what], 0);
        }
        Check.refused("p06 below", x, x.many(-1), 1);
        Check.refused("p06 above", x, x.many(11), 1);
        x.on(1);
        x.take(0);
        x.mark();
        x.tick(3);
        Check.same("p06 all on", x.many(1), 7);
        Check.same("p06 one waits", x.many(3), 1);
        Check.same("p06 that ever were", x.many(4), 2);
        Check.same("p06 the tick", x.many(5), 3);
        Check.same("p06 silent", x.many(6), 3);
        Check.same("p06 marks", x.many(7), 1);
        Check.same("p06 it counts", x.many(8), 1);
        x.mend();
        x.tick(4);
        Check.same("p06 not silent", x, x.many(6), -1, 0);
        Check.same("p06 no break", x, x.many(9), -1, 0);
        Check.same("p06 no cause", x, x.many(10), -1, 0);
    }

    /** At tick 8 the frame of rank 4 is got, and b raises the level for its next one. */
    private static RankedRing raised() {
        RankedRing x = Texts.ring(THREE + "monitor a;send b c 4;send b a 2;");
        x.tick(8);
        return x;
    }

    private static void station() {
        RankedRing x = raised();
        int[] b = {9, 1, 1, 1, 1, 0, 2, -1, 1, 0};
        for (int what = 0; what < b.length; what++) {
            Check.same("p07 station 1 " + what, x, x.station(1, what), b[what], 0);
        }
        int[] c = {7, 1, 0, -1, 0, -1, -1, -1, 0, 1};
        for (int what = 0; what < c.length; what++) {
            Check.same("p07 station 2 " + what, x, x.station(2, what), c[what], 0);
        }
        x.notice();
        Check.same("p07 knows", x.station(0, 7), 2);
        x.off(0);
        Check.same("p07 off", x.station(0, 1), 0);
        Check.same("p07 it knows still", x.station(0, 7), 2);
        x.send(0, 1, 3);
        x.send(0, 1, 5);
        x.send(0, 2, 5);
        Check.same("p07 the first of three", x.station(0, 3), 3);
        Check.refused("p07 no such", x, x.station(3, 0), 2);
        Check.refused("p07 no such below", x, x.station(-1, 0), 2);
        Check.refused("p07 what", x, x.station(0, 10), 1);
        Check.refused("p07 what below", x, x.station(0, -1), 1);
        Check.refused("p07 both", x, x.station(9, 10), 1);
    }

    private static void waits() {
        RankedRing x = Texts.ring(THREE + "send b c 4;send a b 1;send b a 7;");
        Check.same("p08 number", x, x.waits(1, 0, 0), 0, 0);
        Check.same("p08 to", x, x.waits(1, 0, 1), 2, 0);
        Check.same("p08 rank", x, x.waits(1, 0, 2), 4, 0);
        Check.same("p08 as they came, number", x.waits(1, 1, 0), 2);
        Check.same("p08 as they came, to", x.waits(1, 1, 1), 0);
        Check.same("p08 as they came, rank", x.waits(1, 1, 2), 7);
        Check.refused("p08 no third", x, x.waits(1, 2, 0), 5);
        Check.refused("p08 none at all", x, x.waits(2, 0, 0), 5);
        Check.refused("p08 far", x, x.waits(2, Integer.MAX_VALUE, 0), 5);
        Check.refused("p08 below 0", x, x.waits(1, -1, 0), 1);
        Check.refused("p08 what", x, x.waits(1, 0, 3), 1);
        Check.refused("p08 what below", x, x.waits(1, 0, -1), 1);
        Check.refused("p08 no such station", x, x.waits(3, 0, 0), 2);
        Check.refused("p08 no such station below", x, x.waits(-1, 9, 0), 2);
        x.take(0);
        Check.same("p08 it moves up", x.waits(1, 0, 0), 2);
    }

    private static void way() {
        RankedRing x = Texts.ring(THREE + "monitor a;send b c 4;send b a 2;");
        x.tick(3);
        Check.way("p09 silent", x, 0);
        x.tick(1);
        Check.way("p09 the first token", x, 1, 0, 0, 0, 0);
        x.tick(1);
        Check.way("p09 the frame", x, 2, 1, 0, 0, 0, 1, 2, 4, 0, 0);
        x.tick(1);
        Check.way("p09 copied", x, 2, 2, 0, 0, 0, 1, 2, 4, 1, 0);
        x.send(0, 1, 3);
        x.tick(1);
        Check.way("p09 marked, with a wish", x, 2, 0, 0, 3, 1, 1, 2, 4, 1, 0);
        x.tick(1);
        Check.way("p09 raised", x, 1, 1, 3, 0, 0);
        x.tick(2);
        Check.way("p09 taken at its level", x, 2, 0, 3, 0, 0, 0, 1, 3, 0, 2);
        x.tick(3);
        // a had no more; b's 2 is only a wish
        Check.way("p09 got", x, 1, 0, 3, 2, 0);
        x.tick(1);
        Check.way("p09 lowered to the wish and taken", x, 2, 1, 2, 0, 0, 1, 0, 2, 0, 1);
        Check.refused("p09 below", x, x.way(-1), 1);
        Check.refused("p09 above", x, x.way(10), 1);
        RankedRing y = new RankedRing();
        Check.refused("p09 1 ahead of 6", y, y.way(10), 1);
    }

    private static void beacon() {
        RankedRing x = Texts.ring(THREE + "off c;break b 1;");
        x.tick(2);
        Check.same("p10 neither", x, x.beacon(0), 0, 0);
        Check.refused("p10 no tail", x, x.beacon(1), 5);
        x.tick(1);
        // The break does not count with c off: a claim
        Check.same("p10 a claim", x, x.beacon(0), 1, 0);
        Check.refused("p10 a claim has no tail", x, x.beacon(1), 5);
        Check.refused("p10 a claim has no head", x, x.beacon(2), 5);
        x.mend();
        Check.same("p10 mended: neither", x.beacon(0), 0);
        x.snap(2, 2);
        x.tick(3);
        Check.same("p10 a beacon", x, x.beacon(0), 2, 0);
        Check.same("p10 tail", x, x.beacon(1), 1, 0);
        Check.same("p10 head", x, x.beacon(2), 0, 0);
        Check.refused("p10 below", x, x.beacon(-1), 1);
        Check.refused("p10 above", x, x.beacon(3), 1);
    }

    private static void been() {
        RankedRing x = raised();
        int[] due = {1, 0, 0, 1, 0, 0, 2, 0, 8, 8};
        for (int what = 0; what < due.length; what++) {
            Check.same("p11 been " + what, x, x.been(what), due[what], 0);
        }
        // the token to c, a, b; taken at 11, round to 14
        x.tick(6);
        Check.same("p11 got", x.been(0), 2);
        Check.same("p11 ages", x.been(8), 22);
        Check.same("p11 the greatest age", x.been(9), 14);
        x.off(2);
        x.send(0, 2, 1);
        x.tick(3);
        Check.same("p11 missed", x.been(1), 1);
        x.lose();
        Check.same("p11 lost", x.been(2), 1);
        x.snap(0, 2);
        x.tick(3);
        Check.same("p11 beacons", x.been(5), 1);
        x.mend();
        x.off(0);
        x.tick(2);
        Check.same("p11 claims", x.been(4), 1);
        x.tick(1);
        Check.same("p11 purges", x.been(3), 2);
        x.run(1, 0, 16);
        Check.refused("p11 below", x, x.been(-1), 1);
        Check.refused("p11 above", x, x.been(10), 1);
        RankedRing y = new RankedRing();
        y.add(1);
        y.run(20, 5, 16);
        Check.same("p11 refused", y.been(7), 20);
    }

    private static void got() {
        RankedRing x = raised();
        int[] due = {0, 1, 2, 4, 8, 8};
        for (int what = 0; what < due.length; what++) {
            Check.same("p12 got " + what, x, x.got(0, what), due[what], 0);
        }
        Check.refused("p12 no other", x, x.got(1, 0), 5);
        x.tick(6);
        int[] then = {1, 1, 0, 2, 14, 14};
        for (int what = 0; what < then.length; what++) {
            Check.same("p12 the latest " + what, x.got(0, what), then[what]);
        }
        Check.same("p12 that ahead of it", x.got(1, 0), 0);
        Check.refused("p12 below 0", x, x.got(-1, 0), 1);
        Check.refused("p12 above 15", x, x.got(16, 0), 1);
        Check.refused("p12 what", x, x.got(0, 6), 1);
        Check.refused("p12 what below", x, x.got(0, -1), 1);
        Check.refused("p12 no 15th", x, x.got(15, 0), 5);
        for (int i = 0; i < 20; i++) {
            x.send(0, 1, 0);
            x.tick(10);
        }
        Check.same("p12 twenty and two", x.been(0), 22);
        Check.same("p12 the latest of many", x.got(0, 0), 21);
        Check.same("p12 the last that is kept", x, x.got(15, 0), 6, 0);
        lateFrames();
    }

    /** Of two that come at tick 10 the one that comes behind is got first; both are of the station 0. */
    private static void lateFrames() {
        RankedRing x = Texts.ring(THREE + "monitor c;");
        x.tick(10);
        Check.same("p12 the token is at c", x.way(1), 2);
        x.send(0, 1, 0);
        x.send(0, 2, 3);
        x.tick(4);
        Check.same("p12 the greater rank", x.got(0, 0), 1);
        Check.same("p12 its age", x.got(0, 5), 4);
        // its level is as it was, 0: the wish for 0 is not above it; taken at 17, got at 20
        x.tick(6);
        Check.same("p12 the other one", x.got(0, 0), 0);
        Check.same("p12 its tick", x.got(0, 4), 20);
        Check.same("p12 its age", x.got(0, 5), 10);
        Check.same("p15 of rank 0, got", x.ranks(0, 1), 1);
        Check.same("p15 of rank 0, ages", x.ranks(0, 2), 10);
        Check.same("p11 ages", x.been(8), 14);
        Check.same("p11 the greatest age", x.been(9), 10);
    }

    private static void raise() {
        RankedRing x = raised();
        Check.same("p13 old", x, x.raise(1, 0, 0), 0, 0);
        Check.same("p13 new", x, x.raise(1, 0, 1), 2, 0);
        Check.refused("p13 one alone", x, x.raise(1, 1, 0), 5);
        Check.refused("p13 none there", x, x.raise(0, 0, 0), 5);
        Check.refused("p13 below 0", x, x.raise(1, -1, 0), 1);
        Check.refused("p13 what", x, x.raise(1, 0, 2), 1);
        Check.refused("p13 what below", x, x.raise(1, 0, -1), 1);
        Check.refused("p13 no such station", x, x.raise(3, 0, 0), 2);
        Check.refused("p13 far", x, x.raise(1, Integer.MAX_VALUE, 0), 5);
        x.send(0, 1, 3);
        x.send(0, 2, 4);
        x.take(1);
        x.tick(5);
        Check.same("p13 a, old", x.raise(0, 0, 0), 2);
        Check.same("p13 a, new", x.raise(0, 0, 1), 3);
        x.send(1, 0, 6);
        x.send(1, 0, 5);
        x.tick(4);
        Check.same("p13 the topmost, old", x, x.raise(1, 0, 0), 3, 0);
        Check.same("p13 the topmost, new", x, x.raise(1, 0, 1), 5, 0);
        Check.same("p13 that below it, old", x, x.raise(1, 1, 0), 0, 0);
        Check.same("p13 that below it, new", x, x.raise(1, 1, 1), 2, 0);
        Check.refused("p13 two in all", x, x.raise(1, 2, 1), 5);
    }

    private static void event() {
        RankedRing x = raised();
        Check.same("p14 got", x, x.event(0, 0), 0, 0);
        Check.same("p14 its tick", x, x.event(0, 1), 8, 0);
        Check.same("p14 from where", x, x.event(0, 2), 1, 0);
        Check.same("p14 the purge ahead", x.event(1, 0), 3);
        Check.same("p14 its tick", x.event(1, 1), 4);
        Check.same("p14 the monitor", x.event(1, 2), 0);
        Check.refused("p14 no third", x, x.event(2, 0), 5);
        Check.refused("p14 no 24th", x, x.event(23, 0), 5);
        Check.refused("p14 above 23", x, x.event(24, 0), 1);
        Check.refused("p14 below 0", x, x.event(-1, 0), 1);
        Check.refused("p14 what", x, x.event(0, 3), 1);
        Check.refused("p14 what below", x, x.event(0, -1), 1);
        for (int i = 0; i < 30; i++) {
            x.lose();
            x.tick(4);
        }
        // lost at 0 (1 at first), purged at 0, and so on
        Check.same("p14 the latest", x, x.event(0, 0), 3, 0);
        Check.same("p14 the 24th", x, x.event(23, 0), 2, 0);
        Check.same("p14 its tick", x.event(23, 1), 8 + 4 * 18);
        everyKind();
    }

    private static void everyKind() {
        RankedRing x = Texts.ring(THREE + "send a b 0;");
        x.tick(4);
        // a claim: 9 is the greatest address
        Check.same("p14 claim", x.event(0, 0) * 100 + x.event(0, 1) * 10 + x.event(0, 2), 441);
        x.tick(3);
        Check.same("p14 crowned", x.event(1, 0) * 100 + x.event(1, 1) * 10 + x.event(1, 2), 771);
        Check.same("p14 its purge", x.event(0, 0) * 100 + x.event(0, 1) * 10 + x.event(0, 2), 371);
        x.off(1);
        x.tick(2);
        Check.same("p14 on its way from a", x.way(0), 2);
        x.tick(2);
        Check.same("p14 missed", x.event(0, 0) * 1000 + x.event(0, 1) * 10 + x.event(0, 2), 1110);
        x.snap(0, 0);
        x.tick(1);
        Check.same("p14 lost", x.event(0, 0) * 1000 + x.event(0, 1) * 10 + x.event(0, 2), 2120);
        x.tick(3);
        Check.same("p14 beacon", x.event(0, 0) * 1000 + x.event(0, 1) * 10 + x.event(0, 2), 5150);
        x.tick(2);
        Check.same("p14 fell off", x.event(0, 0) * 1000 + x.event(0, 1) * 10 + x.event(0, 2), 6170);
    }

    private static void ranks() {
        RankedRing x = raised();
        Check.same("p15 waits", x, x.ranks(2, 0), 1, 0);
        Check.same("p15 waits not", x, x.ranks(4, 0), 0, 0);
        Check.same("p15 got", x, x.ranks(4, 1), 1, 0);
        Check.same("p15 ages", x, x.ranks(4, 2), 8, 0);
        x.off(0);
        x.send(0, 1, 2);
        x.send(2, 1, 2);
        Check.same("p15 of all, off too", x.ranks(2, 0), 3);
        Check.refused("p15 rank", x, x.ranks(8, 0), 1);
        Check.refused("p15 rank below", x, x.ranks(-1, 0), 1);
        Check.refused("p15 what", x, x.ranks(0, 3), 1);
        Check.refused("p15 what below", x, x.ranks(0, -1), 1);
    }

    private static void hops() {
        RankedRing x = Texts.ring(THREE + "station d 1;off b;");
        Check.same("p16 over b", x, x.hops(0, 2), 1, 0);
        Check.same("p16 round", x, x.hops(3, 0), 1, 0);
        Check.same("p16 two", x, x.hops(0, 3), 2, 0);
        Check.same("p16 to itself", x, x.hops(2, 2), 3, 0);
        Check.same("p16 from one that is off", x, x.hops(1, 0), 3, 0);
        Check.refused("p16 to one that is off", x, x.hops(0, 1), 5);
        Check.refused("p16 off, to itself", x, x.hops(1, 1), 5);
        Check.refused("p16 no such", x, x.hops(4, 0), 2);
        Check.refused("p16 no such other", x, x.hops(0, -1), 2);
        x.snap(2, 2);
        Check.same("p16 the break lies elsewhere", x, x.hops(0, 2), 1, 0);
        Check.refused("p16 it lies between", x, x.hops(0, 3), 3);
        Check.refused("p16 between, from off", x, x.hops(1, 3), 3);
        Check.refused("p16 itself: all round", x, x.hops(0, 0), 3);
        Check.refused("p16 3 ahead of 5", x, x.hops(2, 1), 3);
        Check.refused("p16 off, no break between", x, x.hops(0, 1), 5);
        x.mend();
        x.snap(1, 0);
        Check.same("p16 it does not count", x, x.hops(0, 2), 1, 0);
    }

    private static void heir() {
        RankedRing x = Texts.ring(THREE);
        Check.same("p17 b", x, x.heir(), 1, 0);
        x.off(1);
        Check.same("p17 c", x, x.heir(), 2, 0);
        x.off(2);
        Check.same("p17 a", x, x.heir(), 0, 0);
        x.off(0);
        Check.refused("p17 nobody", x, x.heir(), 5);
        Check.same("p17 address 0", Texts.ring("station z 0;").heir(), 0);
    }
}

/** Promises 18 to 33: what is done. */
public final class DoTest {
    private static final String THREE = "station a 5;station b 9;station c 7;";

    public static void main(String[] args) {
        add();
        send();
        take();
        shed();
        off();
        on();
        monitor();
        lose();
        snap();
        mend();
        tick();
        purgeOfTokens();
        purgeOfFrames();
        claims();
        beacons();
        beaconsOfOneStation();
        lowerings();
        run();
        notice();
        stale();
        mark();
        back();
        Check.end("DoTest");
    }

    private static void add() {
        RankedRing x = new RankedRing();
        Check.refused("p18 100", x, x.add(100), 1);
        Check.refused("p18 below 0", x, x.add(-1), 1);
        for (int i = 0; i < 8; i++) {
            Check.same("p18 add", x, x.add(99 - i), i, 0);
            Check.same("p18 it is on", x.station(i, 1), 1);
            Check.same("p18 its address", x.station(i, 0), 99 - i);
            Check.same("p18 it knows nobody", x.station(i, 7), -1);
        }
        Check.refused("p18 a ninth", x, x.add(0), 3);
        Check.refused("p18 a ninth, taken: 3 ahead of 8", x, x.add(99), 3);
        Check.refused("p18 a ninth, 100: 1 ahead of 3", x, x.add(100), 1);
        RankedRing y = Texts.ring(THREE);
        y.tick(4);
        Check.same("p18 a claim", y.beacon(0), 1);
        Check.refused("p18 taken", y, y.add(9), 8);
        Check.same("p18 a claim still", y.beacon(0), 1);
        Check.same("p18 a fourth", y, y.add(0), 3, 0);
        Check.same("p18 silent for 0 ticks", y.many(6), 0);
        Check.same("p18 no claim", y.beacon(0), 0);
        y.monitor(0);
        y.tick(6);
        Check.same("p18 on its way", y.way(0), 1);
        Check.same("p18 a fifth", y.add(1), 4);
        Check.same("p18 on its way still", y.way(0), 1);
        RankedRing z = Texts.ring("station a 1;station b 2;break b 1;off a;");
        Check.same("p18 the break counts not", z.many(8), 0);
        z.add(3);
        Check.same("p18 the next one is another", z.many(8), 1);
    }

    private static void send() {
        RankedRing x = Texts.ring(THREE + "off b;");
        Check.same("p19 number", x, x.send(0, 2, 0), 0, 0);
        Check.same("p19 at one that is off", x, x.send(1, 0, 7), 1, 0);
        Check.same("p19 to one that is off", x, x.send(0, 1, 7), 2, 0);
        Check.refused("p19 rank", x, x.send(0, 1, 8), 1);
        Check.refused("p19 rank below", x, x.send(0, 0, -1), 1);
        Check.refused("p19 from nowhere", x, x.send(3, 1, 1), 2);
        Check.refused("p19 to nowhere", x, x.send(1, -1, 1), 2);
        Check.refused("p19 to itself", x, x.send(1, 1, 1), 8);
        Check.refused("p19 nowhere, to itself", x, x.send(3, 3, 1), 2);
        for (int i = 3; i < 7; i++) {
            Check.same("p19 more", x.send(0, 1, 1), i);
        }
        Check.refused("p19 a seventh", x, x.send(0, 1, 1), 3);
        Check.refused("p19 a seventh to itself: 3 ahead of 8", x, x.send(0, 0, 1), 3);
        Check.same("p19 that ever were", x.many(4), 7);
        Check.same("p19 elsewhere", x.send(2, 1, 1), 7);
    }

    private static void take() {
        RankedRing x = Texts.ring(THREE + "send a b 3;send c b 3;send a c 3;send a b 3;");
        Check.same("p20 of c", x, x.take(1), 2, 0);
        Check.same("p20 of a", x, x.take(2), 0, 0);
        Check.same("p20 the others stay", x.waits(0, 0, 0) * 10 + x.waits(0, 1, 0), 3);
        Check.same("p20 two", x.many(3), 2);
        Check.refused("p20 again", x, x.take(2), 5);
        Check.refused("p20 never was", x, x.take(4), 5);
        Check.refused("p20 far", x, x.take(Integer.MAX_VALUE), 5);
        Check.refused("p20 below 0", x, x.take(-1), 1);
        x.monitor(2);
        x.tick(5);
        Check.same("p20 on its way", x.way(9), 0);
        Check.refused("p20 it waits no more", x, x.take(0), 5);
        Check.same("p20 the next number", x.send(0, 1, 1), 4);
    }

    private static void shed() {
        RankedRing x = Texts.ring(THREE + "send a b 3;send a b 7;send a b 0;send a b 3;send a b 4;send b c 0;");
        Check.same("p21 none below 0", x, x.shed(0, 0), 0, 0);
        Check.same("p21 below 4", x, x.shed(0, 4), 3, 0);
        Check.same("p21 those stay", x.waits(0, 0, 0) * 10 + x.waits(0, 1, 0), 14);
        Check.same("p21 two", x.station(0, 2), 2);
        Check.same("p21 the other station's", x.station(1, 2), 1);
        Check.same("p21 all", x, x.shed(0, 8), 2, 0);
        Check.same("p21 none is left", x, x.shed(0, 8), 0, 0);
        Check.refused("p21 rank", x, x.shed(0, 9), 1);
        Check.refused("p21 rank below", x, x.shed(0, -1), 1);
        Check.refused("p21 no such", x, x.shed(3, 1), 2);
    }

    private static void off() {
        RankedRing x = Texts.ring(THREE + "monitor a;send b c 4;send b a 2;");
        Check.refused("p22 no such", x, x.off(3), 2);
        Check.refused("p22 no such below", x, x.off(-1), 2);
        x.tick(8);
        Check.same("p22 a raise", x.station(1, 4), 1);
        Check.done("p22 off", x, x.off(1));
        Check.refused("p22 it is so", x, x.off(1), 4);
        Check.same("p22 no raise", x.station(1, 4), 0);
        Check.same("p22 what waits stays", x.station(1, 2), 1);
        Check.same("p22 bits", x.many(1), 5);
        Check.same("p22 the token goes on", x.way(1), 1);
        x.tick(1);
        Check.same("p22 from there", x.way(1), 2);
        x.off(0);
        x.off(2);
        x.tick(1);
        Check.same("p22 none is on: lost", x.event(0, 0) * 10 + x.event(0, 2), 22);
        x.tick(20);
        Check.same("p22 none is on: nothing comes of it", x.many(6), 20);
        x.on(0);
        x.on(1);
        x.tick(2);
        x.off(1);
        Check.same("p22 silent for 0 ticks", x.many(6), 0);
        x.tick(2);
        Check.same("p22 n is 1", x.way(0), 1);
        x.tick(1);
        Check.same("p22 round to itself", x.way(1), 0);
        offOfEach();
    }

    /** Each station in turn raises, and goes off: its raises go, those of no other. */
    private static void offOfEach() {
        for (int station = 0; station < 3; station++) {
            RankedRing x = Texts.ring(THREE + "monitor a;");
            x.tick(4 + station);
            x.monitor((station + 2) % 3);
            x.send(station, (station + 1) % 3, 7);
            x.send(station, (station + 1) % 3, 3);
            x.tick(6);
            Check.same("p22 raised at " + station, x.station(station, 5) * 10 + x.station(station, 6), 3);
            x.mark();
            x.off((station + 1) % 3);
            Check.same("p22 that of another one stays", x.station(station, 4), 1);
            x.back();
            Check.done("p22 off " + station, x, x.off(station));
            Check.same("p22 no raise at " + station, x.station(station, 4), 0);
            Check.same("p22 no old one", x, x.station(station, 5), -1, 0);
            Check.same("p22 no new one", x, x.station(station, 6), -1, 0);
            Check.same("p22 what waits stays", x.station(station, 2), 1);
            Check.same("p22 the level stays", x.way(2), 3);
        }
    }

    private static void on() {
        RankedRing x = Texts.ring(THREE + "monitor a;off b;");
        Check.refused("p23 no such", x, x.on(8), 2);
        Check.refused("p23 it is so", x, x.on(0), 4);
        x.tick(2);
        Check.done("p23 on", x, x.on(1));
        Check.same("p23 silent for 0 ticks", x.many(6), 0);
        x.tick(4);
        x.notice();
        Check.same("p23 it knows", x.station(1, 7), 0);
        x.off(1);
        Check.same("p23 it knows still", x.station(1, 7), 0);
        x.on(1);
        Check.same("p23 it knows nobody", x.station(1, 7), -1);
        Check.same("p23 on its way still", x.way(0), 1);
    }

    private static void monitor() {
        RankedRing x = Texts.ring(THREE);
        Check.refused("p24 no such", x, x.monitor(3), 2);
        Check.done("p24 monitor", x, x.monitor(1));
        Check.refused("p24 it is so", x, x.monitor(1), 4);
        Check.same("p24 it is", x.many(2), 1);
        x.off(2);
        x.tick(1);
        Check.done("p24 one that is off", x, x.monitor(2));
        Check.same("p24 silent as it was", x.many(6), 1);
        x.tick(2);
        Check.same("p24 a claim for it is off", x.beacon(0), 1);
        x.monitor(0);
        Check.same("p24 the claim stays", x.beacon(0), 1);
        x.tick(2);
        Check.same("p24 by the claim", x.many(2), 1);
    }

    private static void lose() {
        RankedRing x = Texts.ring(THREE + "monitor a;send a c 1;");
        Check.refused("p25 nothing", x, x.lose(), 6);
        x.tick(4);
        Check.done("p25 a token", x, x.lose());
        Check.same("p25 silent", x.many(6), 0);
        Check.same("p25 count", x.been(2), 1);
        Check.same("p25 event", x.event(0, 0) * 100 + x.event(0, 1) * 10 + x.event(0, 2), 240);
        Check.refused("p25 again", x, x.lose(), 6);
        x.tick(8);
        Check.same("p25 a frame", x.way(0), 2);
        Check.done("p25 it is lost", x, x.lose());
        Check.same("p25 count", x.been(2), 2);
        Check.same("p25 event", x.event(0, 0) * 1000 + x.event(0, 1) * 10 + x.event(0, 2), 2121);
        Check.same("p25 it waits no more", x.many(3), 0);
    }

    private static void snap() {
        RankedRing x = Texts.ring(THREE + "monitor a;");
        Check.refused("p26 cause", x, x.snap(0, 3), 1);
        Check.refused("p26 cause below", x, x.snap(9, -1), 1);
        Check.refused("p26 no such", x, x.snap(3, 0), 2);
        x.tick(3);
        Check.done("p26 snap", x, x.snap(1, 1));
        Check.same("p26 silent for 0 ticks", x.many(6), 0);
        Check.same("p26 behind", x.many(9), 1);
        Check.same("p26 cause", x.many(10), 1);
        Check.same("p26 counts", x.many(8), 1);
        Check.refused("p26 there is one", x, x.snap(2, 2), 3);
        x.off(1);
        Check.same("p26 cause 1 counts", x.many(8), 1);
        x.off(2);
        Check.same("p26 with the next one off it does not", x.many(8), 0);
        Check.refused("p26 there is one still", x, x.snap(2, 2), 3);
        x.mend();
        x.on(1);
        x.on(2);
        x.snap(2, 0);
        x.off(0);
        Check.same("p26 cause 0 counts", x.many(8), 1);
        x.off(2);
        Check.same("p26 with that one off it does not", x.many(8), 0);
        x.mend();
        x.snap(0, 2);
        x.off(1);
        Check.same("p26 cause 2 counts always", x.many(8), 1);
        snapOnItsWay();
    }

    private static void snapOnItsWay() {
        RankedRing x = Texts.ring(THREE + "monitor a;off b;");
        x.tick(3);
        Check.same("p26 a token at a", x.way(1), 0);
        x.snap(1, 2);
        Check.same("p26 it is on its way still", x.way(0), 1);
        x.tick(1);
        Check.same("p26 lost, for it lay between", x.way(0), 0);
        Check.same("p26 at a", x.event(0, 0) * 10 + x.event(0, 2), 20);
        x.mend();
        x.tick(3);
        x.snap(2, 2);
        x.tick(1);
        Check.same("p26 it lies not between", x.way(1), 2);
        x.tick(1);
        Check.same("p26 it lies between", x.way(0), 0);
        RankedRing y = Texts.ring("station a 1;station b 2;monitor a;off b;");
        y.tick(2);
        y.snap(1, 2);
        y.tick(1);
        Check.same("p26 round to itself, too", y.way(0), 0);
    }

    private static void mend() {
        RankedRing x = Texts.ring(THREE + "break a 2;");
        x.tick(4);
        Check.same("p27 a beacon", x.beacon(0), 2);
        Check.done("p27 mend", x, x.mend());
        Check.same("p27 no beacon", x.beacon(0), 0);
        Check.same("p27 silent for 0 ticks", x.many(6), 0);
        Check.same("p27 no break", x.many(9), -1);
        Check.refused("p27 none", x, x.mend(), 5);
        Check.done("p27 another one", x, x.snap(1, 1));
    }

    private static void tick() {
        RankedRing x = new RankedRing();
        Check.refused("p28 0", x, x.tick(0), 1);
        Check.refused("p28 below", x, x.tick(-5), 1);
        Check.refused("p28 501", x, x.tick(501), 1);
        Check.same("p28 500", x, x.tick(500), 500, 0);
        Check.same("p28 1", x, x.tick(1), 501, 0);
        Check.same("p28 the tick", x.many(5), 501);
    }

    /** A level that nobody lowers comes by the monitor twice. */
    private static void purgeOfTokens() {
        RankedRing x = Texts.ring(THREE + "monitor a;send b c 4;send b a 2;");
        x.tick(8);
        x.off(1);
        x.tick(2);
        Check.same("p28 marked", x.way(4), 1);
        x.send(0, 2, 1);
        x.tick(1);
        Check.same("p28 level 2 still", x.way(2), 2);
        x.tick(1);
        Check.same("p28 purged", x.event(0, 0) * 1000 + x.event(0, 1) * 10 + x.event(0, 2), 3120);
        Check.same("p28 level 0", x.way(2), 0);
        Check.same("p28 not marked", x.way(4), 0);
        Check.same("p28 at the monitor", x.way(1), 0);
        Check.same("p28 nothing more: it waits still", x.station(0, 2), 1);
        Check.same("p28 a token is not lost", x.been(2), 0);
    }

    private static void purgeOfFrames() {
        RankedRing x = Texts.ring(THREE + "monitor a;send b c 4;send b a 2;send c a 7;");
        x.tick(9);
        Check.same("p28 b raised to 7", x.raise(1, 0, 1), 7);
        Check.same("p28 c's frame", x.way(9), 2);
        x.off(2);
        x.tick(2);
        Check.same("p28 round past b", x.way(1), 1);
        x.tick(1);
        Check.same("p28 purged", x.way(0), 1);
        Check.same("p28 lost ahead of it", x.event(1, 0) * 1000 + x.event(1, 1) * 10 + x.event(1, 2), 2120);
        Check.same("p28 all raises go", x.station(1, 4), 0);
        Check.same("p28 counted", x.been(2) * 10 + x.been(3), 12);
    }

    private static void claims() {
        RankedRing x = Texts.ring(THREE + "monitor a;off a;");
        x.tick(2);
        Check.same("p28 no claim yet", x.beacon(0), 0);
        x.tick(1);
        Check.same("p28 a claim at n and 1", x.beacon(0), 1);
        x.tick(1);
        Check.same("p28 silent for 4", x.many(6), 4);
        x.tick(1);
        Check.same("p28 b at n and n and 1", x.many(2), 1);
        Check.same("p28 a token", x.way(0) * 10 + x.way(1), 11);
        Check.same("p28 no claim any more", x.beacon(0), 0);
    }

    private static void beacons() {
        RankedRing x = Texts.ring(THREE + "monitor a;break b 0;");
        x.tick(3);
        Check.same("p28 no beacon yet", x.beacon(0), 0);
        x.tick(1);
        Check.same("p28 a beacon", x.beacon(0) * 100 + x.beacon(1) * 10 + x.beacon(2), 212);
        x.tick(2);
        Check.same("p28 b is on", x.many(1), 7);
        x.tick(1);
        Check.same("p28 b went off at n and n and 1", x.many(1), 5);
        Check.same("p28 silent for 0 ticks", x.many(6), 0);
        RankedRing y = Texts.ring(THREE + "monitor a;break b 1;");
        y.tick(7);
        Check.same("p28 the tail stays on", y.many(1) * 10 + y.many(6), 77);
        y.tick(1);
        Check.same("p28 the head went off at n and n and 2", y.many(1), 3);
        Check.same("p28 silent for 0 ticks, too", y.many(6), 0);
        RankedRing z = Texts.ring(THREE + "monitor a;break b 2;");
        z.tick(100);
        Check.same("p28 the cable's: none goes off", z.many(1) * 1000 + z.many(6), 7100);
        Check.same("p28 the beacon stays", z.beacon(0), 2);
        RankedRing w = Texts.ring(THREE + "off a;break c 2;");
        w.tick(3);
        Check.same("p28 on its path", w.beacon(1) * 10 + w.beacon(2), 21);
    }

    private static void beaconsOfOneStation() {
        RankedRing x = Texts.ring("station a 1;station b 2;monitor a;off b;break b 1;");
        x.tick(2);
        Check.same("p28 tail and head are one", x.beacon(1) * 10 + x.beacon(2), 0);
        x.tick(1);
        Check.same("p28 as the tail it goes off", x.many(1), 0);
        x.tick(9);
        Check.same("p28 none is on", x.many(6), 9);
    }

    /** Station a raises, and lowers to a wish and then to the old level, as the token comes by. */
    private static void lowerings() {
        RankedRing x = Texts.ring(THREE + "monitor b;send a c 1;send a b 6;");
        // purge at b (4), a takes 1 at 6, got at 9 and raised to 1 for the other one
        x.tick(9);
        Check.same("p28 raised", x.raise(0, 0, 0) * 10 + x.raise(0, 0, 1), 1);
        x.take(0);
        x.send(2, 0, 5);
        x.send(0, 1, 5);
        x.send(1, 2, 4);
        // b takes at level 1 (10), c wishes for 5 (11), a for 5, b raises to 5 (13), c takes (14), a wishes for 5
        x.tick(4);
        Check.same("p28 b raised", x.raise(1, 0, 0) * 10 + x.raise(1, 0, 1), 15);
        x.tick(1);
        Check.same("p28 c took it", x.way(9), 2);
        x.tick(2);
        Check.same("p28 marked at b, a's wish", x.way(3) * 10 + x.way(4), 51);
        x.take(3);
        x.send(0, 1, 3);
        x.tick(1);
        // got at c (17): 5 is not above the level 5, and stays a wish
        Check.same("p28 the wish stays", x.way(0) * 100 + x.way(2) * 10 + x.way(3), 155);
        x.tick(2);
        // b (19) marks it and lowers it to the wish 5, which is no lower: not marked, no wish, the couple stays
        Check.same("p28 lowered to the wish", x.way(2) * 10 + x.way(3), 50);
        Check.same("p28 not marked then", x.way(4), 0);
        Check.same("p28 the couple stays", x.raise(1, 0, 0) * 10 + x.raise(1, 0, 1), 15);
        x.tick(2);
        Check.same("p28 a's wish for 3", x.way(1) * 100 + x.way(2) * 10 + x.way(3), 53);
        x.tick(1);
        Check.same("p28 lowered to 3", x.way(2) * 10 + x.way(3), 30);
        Check.same("p28 not marked then", x.way(4), 0);
        Check.same("p28 the couple is lowered", x.raise(1, 0, 0) * 10 + x.raise(1, 0, 1), 13);
        x.tick(2);
        Check.same("p28 a took its 3", x.way(0) * 10 + x.way(9), 25);
        x.tick(4);
        // got at a (27); b (28) lowers to 1, and drops the couple
        Check.same("p28 lowered to the old level", x.way(1) * 10 + x.way(2), 11);
        Check.same("p28 not marked then", x.way(4), 0);
        Check.same("p28 the couple goes", x.station(1, 4), 0);
        Check.same("p38 a's is left", x, x.lowered(), 2, 0);
        x.tick(2);
        Check.same("p28 level 0", x.way(1) * 10 + x.way(2), 0);
        Check.same("p28 none is left", x.station(0, 4), 0);
    }

    private static void run() {
        RankedRing x = Texts.ring(THREE + "monitor a;");
        Check.refused("p29 ticks", x, x.run(0, 0, 0), 1);
        Check.refused("p29 ticks above", x, x.run(501, 0, 0), 1);
        Check.refused("p29 seed below", x, x.run(1, -1, 0), 1);
        Check.refused("p29 seed above", x, x.run(1, 10000, 0), 1);
        Check.refused("p29 load below", x, x.run(1, 0, -1), 1);
        Check.refused("p29 load above", x, x.run(1, 0, 17), 1);
        int got = x.run(500, 9999, 16);
        Check.same("p29 how many were got", x, got, x.been(0), 0);
        Check.same("p29 some were", got > 50, true);
        Check.same("p29 the tick", x.many(5), 500);
        Check.same("p29 each waits, is on its way, was got, or was refused",
            x.many(3) + (x.way(0) == 2 ? 1 : 0) + x.been(0) + x.been(1) + x.been(2) + x.been(7), 500);
        Check.same("p29 of this run alone", x.run(100, 1, 8), x.been(0) - got);
        Check.same("p29 load 0", x, x.run(1, 1, 0) * 0, 0, 0);
        RankedRing y = Texts.ring(THREE + "off a;off b;off c;");
        y.run(50, 3, 16);
        Check.same("p29 refused where it is off", y.been(7) * 100 + y.many(4), 5000);
        RankedRing z = new RankedRing();
        Check.same("p29 without stations", z, z.run(500, 3, 16), 0, 0);
        Check.same("p29 none refused", z.been(7), 0);
    }

    private static void notice() {
        RankedRing x = Texts.ring(THREE + "send b a 0;");
        Check.refused("p30 no monitor", x, x.notice(), 5);
        x.monitor(0);
        Check.refused("p30 no token", x, x.notice(), 6);
        x.off(0);
        Check.refused("p30 the monitor is off", x, x.notice(), 5);
        x.on(0);
        x.snap(2, 2);
        Check.refused("p30 a break counts: 3 ahead of 6", x, x.notice(), 3);
        x.mend();
        x.tick(4);
        Check.same("p30 all three", x, x.notice(), 3, 0);
        Check.same("p30 a knows c", x.station(0, 7), 2);
        Check.same("p30 b knows a", x.station(1, 7), 0);
        Check.same("p30 c knows b", x.station(2, 7), 1);
        Check.same("p30 none anew", x, x.notice(), 0, 0);
        x.off(1);
        Check.same("p30 c knows another one", x, x.notice(), 1, 0);
        Check.same("p30 c knows a", x.station(2, 7), 0);
        Check.same("p30 b knows as ahead", x.station(1, 7), 0);
        x.off(2);
        Check.same("p30 a alone", x, x.notice(), 1, 0);
        Check.same("p30 itself", x.station(0, 7), 0);
        x.on(1);
        x.tick(1);
        Check.same("p30 a frame", x.way(0), 2);
        Check.refused("p30 a frame is no token", x, x.notice(), 6);
        x.snap(2, 0);
        x.tick(2);
        Check.same("p30 a break that does not count", x, x.notice(), 2, 0);
    }

    private static void stale() {
        RankedRing x = new RankedRing();
        Check.same("p31 no stations", x, x.stale(), 0, 0);
        Texts.load(x, THREE + "monitor a;");
        Check.same("p31 none knows", x, x.stale(), 7, 0);
        x.tick(4);
        x.notice();
        Check.same("p31 all know", x, x.stale(), 0, 0);
        x.off(0);
        Check.same("p31 b knows another one", x, x.stale(), 2, 0);
        x.on(0);
        Check.same("p31 a knows none", x, x.stale(), 1, 0);
        x.add(1);
        Check.same("p31 a and the fourth", x, x.stale(), 9, 0);
    }

    private static void mark() {
        RankedRing x = new RankedRing();
        for (int i = 1; i <= 4; i++) {
            Check.same("p32 mark", x, x.mark(), i, 0);
            Check.same("p32 many", x.many(7), i);
        }
        Check.refused("p32 a fifth", x, x.mark(), 3);
        Check.same("p32 one less", x, x.back(), 3, 0);
        Check.same("p32 one more", x, x.mark(), 4, 0);
    }

    private static long digest(RankedRing x) {
        long sum = 7;
        for (int a = 0; a < 24; a++) {
            sum = sum * 31 + (a == 7 ? 0 : x.many(a));
            sum = sum * 31 + x.way(a);
            sum = sum * 31 + x.been(a);
            sum = sum * 31 + x.beacon(a);
            for (int b = 0; b < 10; b++) {
                sum = sum * 31 + x.station(a, b);
                sum = sum * 31 + x.event(a, b);
                sum = sum * 31 + x.got(a, b);
                sum = sum * 31 + x.ranks(a, b);
                sum = sum * 31 + x.waits(a, b, 0) * 64 + x.waits(a, b, 1) * 8 + x.waits(a, b, 2);
                sum = sum * 31 + x.raise(a, b, 0) * 8 + x.raise(a, b, 1);
            }
        }
        return sum * 31 + x.stale();
    }

    private static void back() {
        RankedRing x = Texts.ring(THREE + "monitor a;");
        Check.refused("p33 no mark", x, x.back(), 5);
        x.run(200, 17, 9);
        x.notice();
        long first = digest(x);
        x.mark();
        x.run(300, 18, 12);
        x.snap(1, 0);
        x.tick(9);
        x.add(50);
        long second = digest(x);
        x.mark();
        x.mark();
        x.feed(1, 2, 3, 4, 5);
        Texts.load(x, "station z 3 A");
        x.mend();
        x.run(400, 3, 16);
        x.tick(7);
        Check.same("p33 another one", digest(x) != second, true);
        Check.same("p33 two are left", x, x.back(), 2, 0);
        Check.same("p33 as at the third", digest(x), second);
        Check.same("p33 what fault() tells, too", x.fault(0), 0);
        Check.same("p33 the tape, too", x.feed(0, 0, 0, 0, 0), 20);
        Check.same("p33 one is left", x, x.back(), 1, 0);
        Check.same("p33 as at the second", digest(x), second);
        Texts.load(x, "station z 3;");
        Check.same("p33 none is left", x, x.back(), 0, 0);
        Check.same("p33 as at the first", digest(x), first);
        Check.same("p33 the tape of then", x.feed(0, 0, 0, 0, 0), 20);
        Check.refused("p33 no mark any more", x, x.back(), 5);
        long gone = digest(x);
        x.run(300, 18, 12);
        x.snap(1, 0);
        x.tick(9);
        x.add(50);
        Check.same("p33 it goes on as it went", digest(x), second);
        Check.same("p33 from there", gone, first);
        backToAll();
        backToFrame();
        backToBeacon();
    }

    /** Behind the mark another frame, of another rank and age, comes on its way in its place. */
    private static void backToFrame() {
        RankedRing x = Texts.ring(THREE + "monitor a;send b c 4;");
        x.tick(6);
        x.mark();
        x.send(2, 0, 6);
        x.tick(3);
        Check.way("p33 another one", x, 2, 2, 0, 0, 0, 2, 0, 6, 0, 1);
        Check.same("p33 back", x, x.back(), 0, 0);
        Check.way("p33 that of then", x, 2, 2, 0, 0, 0, 1, 2, 4, 1, 0);
        x.tick(2);
        Check.same("p33 got, of its rank", x.got(0, 3) * 10 + x.ranks(4, 1), 41);
        Check.same("p33 of its age", x.got(0, 5) * 100 + x.been(8) * 10 + x.been(9), 888);
    }

    private static void backToAll() {
        RankedRing x = Texts.ring(THREE + "monitor a;send b c 4;");
        x.tick(6);
        x.send(0, 1, 3);
        x.tick(1);
        Check.same("p33 marked, copied, wished for", x.way(3) * 100 + x.way(4) * 10 + x.way(8), 311);
        Texts.load(x, "station \nA");
        Check.same("p33 no ring any more", x.fault(1), 9);
        Texts.feed(x, THREE + "send a c 2;");
        long then = digest(x);
        x.mark();
        x.load(12);
        x.mark();
        x.back();
        x.run(30, 4, 16);
        x.feed(-1, -1, -1, -1, -1);
        x.back();
        Check.same("p33 all", digest(x), then);
        Check.same("p33 what fault() tells, kind", x.fault(0), 1);
        Check.same("p33 what fault() tells, place", x.fault(1), 9);
        x.tick(1);
        Check.same("p33 rank, from and age are back", x.got(0, 3) * 100 + x.got(0, 1) * 10 + x.got(0, 5), 418);
        Check.same("p33 the tape", x, x.load(THREE.length() + 11), 3, 0);
        Check.same("p33 its text", x.ranks(2, 0), 1);
    }

    private static void backToBeacon() {
        RankedRing x = Texts.ring(THREE + "monitor a;break b 0;");
        x.tick(5);
        x.mark();
        x.mend();
        x.tick(100);
        x.back();
        Check.same("p33 silent", x.many(6), 5);
        Check.same("p33 a beacon", x.beacon(0) * 100 + x.beacon(1) * 10 + x.beacon(2), 212);
        x.tick(2);
        Check.same("p33 it goes on", x.many(1), 5);
    }
}

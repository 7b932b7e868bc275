/** The first and the last number that each call takes, and what is empty, full, or goes round. */
public final class EdgeTest {
    private static final String THREE = "station a 5;station b 9;station c 7;";

    public static void main(String[] args) {
        fullTape();
        fullRing();
        emptyRing();
        addresses();
        ranksAndNumbers();
        takes();
        sheds();
        sixteenGot();
        twentyFourEvents();
        deepRaises();
        longTicks();
        hopsRound();
        heirs();
        knowing();
        fourMarks();
        lastOnPaper();
        Check.end("EdgeTest");
    }

    private static void fullTape() {
        StringBuilder text = new StringBuilder(THREE);
        while (text.length() < 480) {
            text.append(text.length() % 2 == 0 ? ' ' : '\n');
        }
        text.append("send\na b\n7;off\nc    ;");
        RankedRing x = new RankedRing();
        Texts.feed(x, text.substring(0, 480));
        Check.same("p03 the last feed fills it", x.feed(0x73656e64, 0x0a612062, 0x0a373b6f, 0x66660a63, 0x2020203b), 500);
        Check.same("p03 there would be 520", x.feed(0x3b3b3b3b, 0, 0, 0, 0), -1);
        Check.refused("p04 501 of 500", x, x.load(501), 1);
        Check.same("p04 500 of 500", x, x.load(500), 3, 0);
        Check.same("p04 to the last byte", x.ranks(7, 0) * 10 + x.many(1), 13);
        Check.same("p05 no fault", x.fault(0) * 10 + x.fault(1), -1);
        Check.refused("p04 empty then", x, x.load(1), 1);
        Check.same("p04 none of it", x, x.load(0), 0, 0);
        Check.same("p04 no stations then", x.many(0), 0);
        Texts.feed(x, text.substring(0, 499) + "A");
        Check.refused("p05 a fault at the last byte", x, x.load(500), 9);
        Check.same("p05 its kind and place", x.fault(0) * 1000 + x.fault(1), 1499);
        Texts.feed(x, text.substring(0, 499) + " ");
        Check.refused("p05 a fault at the end", x, x.load(500), 9);
        Check.same("p05 the text's length", x.fault(0) * 1000 + x.fault(1), 2500);
        Texts.feed(x, text.toString());
        Check.refused("p05 the end is that of the first n", x, x.load(499), 9);
        Check.same("p05 not that of the tape", x.fault(0) * 1000 + x.fault(1), 2499);
    }

    private static RankedRing eight() {
        StringBuilder text = new StringBuilder();
        for (int i = 0; i < 8; i++) {
            text.append("station ").append((char) ('a' + i)).append(' ').append(99 - i * 14).append(';');
        }
        return Texts.ring(text.toString());
    }

    private static void fullRing() {
        RankedRing x = eight();
        for (int i = 0; i < 48; i++) {
            Check.same("p19 six at each of eight, " + i, x, x.send(i % 8, (i + 1) % 8, i / 8), i, 0);
        }
        for (int i = 0; i < 8; i++) {
            Check.refused("p19 no room at " + i, x, x.send(i, (i + 1) % 8, 7), 3);
            Check.same("p07 six wait", x, x.station(i, 2), 6, 0);
            Check.same("p07 the first of six", x, x.station(i, 3), 40 + i, 0);
            Check.same("p08 the sixth", x, x.waits(i, 5, 0), 40 + i, 0);
            Check.refused("p08 no seventh", x, x.waits(i, 6, 0), 5);
        }
        Check.same("p06 eight", x, x.many(0), 8, 0);
        Check.same("p06 all eight bits", x, x.many(1), 255, 0);
        Check.same("p06 48 wait", x, x.many(3), 48, 0);
        Check.same("p06 48 ever were", x, x.many(4), 48, 0);
        Check.same("p07 the last station", x, x.station(7, 0), 1, 0);
        Check.same("p15 eight of rank 5", x, x.ranks(5, 0), 8, 0);
        Check.same("p31 all eight", x, x.stale(), 255, 0);
        Check.same("p20 the last one", x, x.take(47), 7, 0);
        Check.same("p19 there is room again", x, x.send(7, 6, 0), 48, 0);
        Check.same("p08 behind the others", x.waits(7, 5, 0), 48);
        Check.refused("p19 there is none again", x, x.send(7, 6, 0), 3);
        Check.same("p21 all go", x, x.shed(7, 8), 6, 0);
        Check.same("p07 no first", x, x.station(7, 3), -1, 0);
        Check.same("p19 room for six", x, x.send(7, 6, 0), 49, 0);
    }

    private static void emptyRing() {
        RankedRing x = new RankedRing();
        Check.same("p31 nobody", x, x.stale(), 0, 0);
        Check.same("p28 ticks", x, x.tick(1), 1, 0);
        Check.same("p29 nobody to send", x, x.run(500, 9999, 16), 0, 0);
        Check.same("p11 nor refused", x, x.been(7), 0, 0);
        Check.same("p06 silent", x, x.many(6), 501, 0);
        Check.same("p34 quiet", x, x.quiet(false) * 10 + x.quiet(true), 0, 0);
        Check.same("p37 no level", x, x.peak(), 0, 0);
        Check.same("p38 no raises", x, x.lowered(), 0, 0);
        Check.same("p42 none waits", x, x.gain(), 0, 0);
        Check.same("p32 a mark of nothing", x, x.mark(), 1, 0);
        Check.same("p18 the first station", x, x.add(0), 0, 0);
        Check.same("p18 silent for 0 ticks", x.many(6), 0);
        Check.same("p33 back to nothing", x, x.back(), 0, 0);
        Check.same("p33 no stations", x.many(0) * 1000 + x.many(6), 501);
        for (int rank = 0; rank <= 7; rank++) {
            Check.same("p15 ranks " + rank, x, x.ranks(rank, 0) + x.ranks(rank, 1) + x.ranks(rank, 2), 0, 0);
        }
    }

    private static void addresses() {
        RankedRing x = new RankedRing();
        Check.same("p18 address 0", x, x.add(0), 0, 0);
        Check.same("p18 address 99", x, x.add(99), 1, 0);
        Check.refused("p18 0 is taken", x, x.add(0), 8);
        Check.refused("p18 99 is taken", x, x.add(99), 8);
        Check.same("p18 address 98", x, x.add(98), 2, 0);
        Check.same("p07 they have them", x.station(0, 0) * 10_000 + x.station(1, 0) * 100 + x.station(2, 0), 9998);
        x.off(1);
        Check.refused("p18 of one that is off, too", x, x.add(99), 8);
    }

    private static void ranksAndNumbers() {
        RankedRing x = Texts.ring(THREE);
        Check.same("p19 rank 0", x, x.send(0, 1, 0), 0, 0);
        Check.same("p19 rank 7", x, x.send(0, 2, 7), 1, 0);
        Check.same("s1 the first is that of the greatest rank", x.station(0, 3), 1);
        x.send(0, 1, 7);
        Check.same("s1 of several that which came ahead", x.station(0, 3), 1);
        x.take(1);
        Check.same("s1 then the next one of them", x.station(0, 3), 2);
        x.take(2);
        Check.same("s1 then the least", x.station(0, 3), 0);
        x.take(0);
        Check.same("s1 then none", x.station(0, 3), -1);
        Check.same("s1 no number comes twice", x.send(0, 1, 7), 3);
        x.send(0, 1, 7);
        x.shed(0, 8);
        Check.same("s1 nor behind shed", x.send(0, 1, 7), 5);
        Check.same("p06 that ever were", x.many(4), 6);
    }

    /** Frames of other ticks: each keeps its age where the ones ahead of it go. */
    private static void takes() {
        RankedRing x = Texts.ring(THREE);
        for (int i = 0; i < 6; i++) {
            x.send(1, 2 * (i % 2), 7 - i);
            x.tick(1);
        }
        x.take(0);
        x.take(3);
        Check.same("p20 the others move up", x.waits(1, 0, 0) * 1000 + x.waits(1, 1, 0) * 100 + x.waits(1, 2, 0) * 10
            + x.waits(1, 3, 0), 1245);
        Check.same("p20 with whom they go to", x.waits(1, 0, 1) * 1000 + x.waits(1, 1, 1) * 100 + x.waits(1, 2, 1) * 10
            + x.waits(1, 3, 1), 2002);
        Check.same("p20 and their ranks", x.waits(1, 0, 2) * 1000 + x.waits(1, 1, 2) * 100 + x.waits(1, 2, 2) * 10
            + x.waits(1, 3, 2), 6532);
        x.shed(1, 6);
        Check.same("p21 one is left", x.many(3), 1);
        // b is the monitor at 7, a token; round to b at 10, round with the frame at 13
        x.tick(7);
        Check.same("p12 number 1", x.got(0, 0) * 100 + x.got(0, 4), 113);
        Check.same("p12 it came at tick 1", x.got(0, 5), 12);
    }

    private static void sheds() {
        RankedRing x = Texts.ring(THREE);
        for (int rank = 0; rank < 6; rank++) {
            x.send(0, 1, rank + 2);
        }
        Check.same("p21 0: none is below", x, x.shed(0, 0), 0, 0);
        Check.same("p21 2: none, either", x, x.shed(0, 2), 0, 0);
        Check.same("p21 3: one", x, x.shed(0, 3), 1, 0);
        Check.same("p21 7: all but 7", x, x.shed(0, 7), 4, 0);
        Check.same("p21 that one stays", x.waits(0, 0, 0), 5);
        Check.same("p21 8: all", x, x.shed(0, 8), 1, 0);
        Check.same("p21 none at all", x, x.shed(0, 8), 0, 0);
        Check.same("p21 at the last station", x, x.shed(2, 8), 0, 0);
        x.send(0, 1, 0);
        Check.same("p21 rank 0 is not below 0", x, x.shed(0, 0), 0, 0);
        Check.same("p21 but below 1", x, x.shed(0, 1), 1, 0);
        x.send(2, 1, 3);
        x.off(2);
        Check.same("p21 where it is off, too", x, x.shed(2, 4), 1, 0);
    }

    private static void sixteenGot() {
        RankedRing x = Texts.ring(THREE + "monitor a;");
        x.tick(4);
        for (int i = 0; i < 15; i++) {
            x.send(0, 1, 0);
            x.tick(6);
        }
        Check.same("p11 fifteen", x, x.been(0), 15, 0);
        Check.same("p12 the fifteenth", x, x.got(14, 0), 0, 0);
        Check.refused("p12 no sixteenth", x, x.got(15, 0), 5);
        x.send(0, 1, 0);
        x.tick(6);
        Check.same("p12 the sixteenth", x, x.got(15, 0), 0, 0);
        Check.same("p12 the latest", x, x.got(0, 0), 15, 0);
        x.send(0, 1, 0);
        x.tick(6);
        Check.same("p12 the oldest went", x, x.got(15, 0), 1, 0);
        Check.same("p12 the latest of seventeen", x, x.got(0, 0), 16, 0);
        Check.refused("p12 no seventeenth is kept", x, x.got(16, 0), 1);
        Check.same("p11 all are counted", x.been(0) * 100 + x.ranks(0, 1), 1717);
        Check.same("p07 of them all", x.station(0, 8) * 100 + x.station(1, 9), 1717);
    }

    private static void twentyFourEvents() {
        RankedRing x = Texts.ring("station a 5;monitor a;");
        for (int i = 0; i < 11; i++) {
            x.tick(2);
            x.lose();
        }
        x.tick(2);
        Check.same("p14 the 23rd", x, x.event(22, 0) * 100 + x.event(22, 1), 302, 0);
        Check.refused("p14 no 24th", x, x.event(23, 0), 5);
        x.lose();
        Check.same("p14 the 24th", x, x.event(23, 0) * 100 + x.event(23, 1), 302, 0);
        Check.same("p14 the latest", x, x.event(0, 0) * 100 + x.event(0, 1), 224, 0);
        x.tick(2);
        Check.same("p14 the oldest went", x, x.event(23, 0) * 100 + x.event(23, 1), 202, 0);
        Check.same("p14 the latest of 25", x, x.event(0, 0) * 100 + x.event(0, 1), 326, 0);
        Check.refused("p14 no 25th is kept", x, x.event(24, 0), 1);
        Check.same("p11 all are counted", x.been(2) * 100 + x.been(3), 1213);
    }

    /** Two stations raise by turns, from 0 to 7. */
    private static void deepRaises() {
        RankedRing x = Texts.ring("station a 5;station b 9;station z 99;monitor z;");
        x.tick(4);
        x.off(2);
        // the token is at z, which is off; each in turn sends one of rank 7 and has one for the next level behind it
        for (int level = 1; level <= 7; level++) {
            int here = (level + 1) % 2;
            x.send(here, 1 - here, 7);
            x.send(here, 1 - here, level);
            x.tick(3);
            Check.same("p09 level " + level, x.way(0) * 100 + x.way(1) * 10 + x.way(2), 100 + here * 10 + level);
            x.take(level * 2 - 1);
        }
        Check.same("p07 four raises", x, x.station(0, 4), 4, 0);
        Check.same("p07 three raises", x, x.station(1, 4), 3, 0);
        for (int i = 0; i < 4; i++) {
            Check.same("p13 a, old " + i, x, x.raise(0, i, 0), 6 - 2 * i, 0);
            Check.same("p13 a, new " + i, x, x.raise(0, i, 1), 7 - 2 * i, 0);
        }
        for (int i = 0; i < 3; i++) {
            Check.same("p13 b, old " + i, x, x.raise(1, i, 0), 5 - 2 * i, 0);
            Check.same("p13 b, new " + i, x, x.raise(1, i, 1), 6 - 2 * i, 0);
        }
        Check.refused("p13 a has no fifth", x, x.raise(0, 4, 0), 5);
        Check.refused("p13 b has no fourth", x, x.raise(1, 3, 0), 5);
        Check.same("p07 the topmost", x.station(0, 5) * 10 + x.station(0, 6), 67);
        Check.same("p11 the greatest level", x, x.been(6), 7, 0);
        // a lowers at 27, b at 28, and so on
        Check.same("p38 seven are lowered", x, x.lowered(), 8, 0);
        x.tick(8);
        Check.same("p38 then", x.station(0, 4) + x.station(1, 4) + x.way(2), 0);
        Check.same("p38 there are none", x, x.lowered(), 0, 0);
    }

    private static void longTicks() {
        RankedRing x = Texts.ring(THREE + "monitor a;");
        Check.same("p28 one", x, x.tick(1), 1, 0);
        Check.same("p28 five hundred", x, x.tick(500), 501, 0);
        Check.same("p29 one", x, x.run(1, 0, 0), 0, 0);
        Check.same("p29 five hundred", x, x.run(500, 9999, 0), 0, 0);
        Check.same("p06 the tick", x.many(5), 1002);
        Check.same("p29 load 0: none came", x.many(4) + x.been(7), 0);
        x.run(400, 9999, 16);
        Check.same("p29 load 16: each tick", x.many(4) + x.been(7), 400);
    }

    private static void hopsRound() {
        RankedRing x = eight();
        for (int from = 0; from < 8; from++) {
            for (int to = 0; to < 8; to++) {
                int steps = (to - from + 8) % 8;
                Check.same("p16 " + from + " to " + to, x, x.hops(from, to), steps == 0 ? 8 : steps, 0);
            }
        }
        x.snap(7, 2);
        Check.same("p16 up to the break", x, x.hops(0, 7), 7, 0);
        Check.refused("p16 behind the last the first", x, x.hops(7, 0), 3);
        Check.refused("p16 all round from ahead of it", x, x.hops(7, 7), 3);
        Check.refused("p16 all round from behind it", x, x.hops(0, 0), 3);
        for (int station = 1; station < 8; station++) {
            x.off(station);
        }
        Check.refused("p16 it lies between, whoever is on", x, x.hops(3, 0), 3);
        x.mend();
        Check.same("p16 one alone, to itself", x, x.hops(0, 0), 1, 0);
        Check.same("p16 one alone, from one that is off", x, x.hops(1, 0), 1, 0);
        Check.refused("p16 to one that is off", x, x.hops(0, 1), 5);
        x.off(0);
        Check.refused("p16 none is on", x, x.hops(0, 0), 5);
        Check.refused("p16 none is on, to another", x, x.hops(7, 0), 5);
    }

    private static void heirs() {
        RankedRing x = eight();
        for (int station = 0; station < 8; station++) {
            Check.same("p17 the greatest that is on", x, x.heir(), station, 0);
            x.off(station);
        }
        Check.refused("p17 none is on", x, x.heir(), 5);
        x.on(7);
        Check.same("p17 the last one", x, x.heir(), 7, 0);
        x.on(2);
        Check.same("p17 a greater one", x, x.heir(), 2, 0);
    }

    private static void knowing() {
        RankedRing x = eight();
        x.monitor(7);
        x.tick(9);
        Check.same("p30 all eight", x, x.notice(), 8, 0);
        Check.same("p30 ahead of the first the last", x.station(0, 7), 7);
        Check.same("p30 ahead of the last", x.station(7, 7), 6);
        Check.same("p31 none is stale", x, x.stale(), 0, 0);
        for (int station = 0; station < 7; station++) {
            x.off(station);
        }
        Check.same("p31 the last one knows another one", x, x.stale(), 128, 0);
        Check.same("p30 it alone", x, x.notice(), 1, 0);
        Check.same("p30 itself", x.station(7, 7), 7);
        Check.same("p31 one alone that knows itself", x, x.stale(), 0, 0);
        Check.same("p07 one that is off knows as ahead", x.station(0, 7), 7);
        x.on(0);
        Check.same("p23 and nobody when it is on again", x.station(0, 7), -1);
        Check.same("p31 both", x, x.stale(), 129, 0);
        Check.same("p30 both", x, x.notice(), 2, 0);
    }

    private static void fourMarks() {
        RankedRing x = Texts.ring(THREE);
        for (int i = 1; i <= 4; i++) {
            x.send(0, 1, i);
            Check.same("p32 a mark more", x, x.mark(), i, 0);
        }
        Check.refused("p32 no fifth", x, x.mark(), 3);
        for (int i = 3; i >= 0; i--) {
            x.shed(0, 8);
            x.monitor(i % 3);
            Check.same("p33 back", x, x.back(), i, 0);
            Check.same("p33 the latest one", x.many(3), i + 1);
            Check.same("p33 no monitor then", x.many(2), -1);
            Check.same("p06 marks", x, x.many(7), i, 0);
        }
        Check.refused("p33 none is left", x, x.back(), 5);
        Check.same("p32 four again", x.mark() + x.mark() + x.mark() + x.mark(), 10);
    }

    /** The last of 48 is got late, and no later one. */
    private static void lastOnPaper() {
        RankedRing x = eight();
        x.monitor(0);
        for (int i = 0; i < 48; i++) {
            x.send(i % 8, (i + 4) % 8, i * 3 % 8);
        }
        int late = x.quiet(false);
        Check.same("p34 late, but it is quiet", x.status() == 0 && late > 500, true);
        int last = x.next(47, false);
        Check.same("p36 the last one", x.status(), 0);
        Check.refused("p36 there is no later one", x, x.next(48, false), 7);
        Check.refused("p36 nor plain", x, x.next(48, true), 7);
        Check.same("p35 it is quiet with the last one", x, x.when(last, false), late, 0);
        x.tick(500);
        x.tick(late - 501);
        Check.same("p34 it is not, one tick ahead", x, x.quiet(false), 1, 0);
        Check.same("p35 nor got", x, x.when(last, false), 1, 0);
        x.tick(1);
        Check.same("p34 it is", x, x.quiet(false), 0, 0);
        Check.same("p12 got now", x.got(0, 0) * 10_000 + x.got(0, 4), last * 10_000 + late);
        Check.refused("p36 none is left", x, x.next(0, false), 7);
        Check.refused("p35 it is got", x, x.when(last, false), 5);
    }
}

/** Sections 1 to 3, sentence by sentence: breaks, the way round, marks, levels, silence. */
public final class TermsTest {
    private static final String THREE = "station a 5;station b 9;station c 7;";

    public static void main(String[] args) {
        breaks();
        breakOfOne();
        wayRound();
        alone();
        lost();
        marked();
        levelOne();
        movedMonitor();
        fromTheMonitor();
        loweredToOld();
        loweredToWish();
        takenAtLevel();
        raisedByWish();
        missed();
        fromOneThatIsOff();
        silences();
        noneOn();
        paths();
        resets();
        keptOnItsWay();
        raisesGoByBeacon();
        Check.end("TermsTest");
    }

    /** Three on, and a monitor z that is off, so that nothing is marked; the token comes to a next, at tick 6. */
    private static RankedRing free() {
        RankedRing x = Texts.ring(THREE + "station z 99;monitor z;");
        x.tick(5);
        x.off(3);
        Check.way("s2 at z", x, 1, 3, 0, 0, 0);
        return x;
    }

    private static void couple(String what, RankedRing x, int station, int old, int raised) {
        Check.same(what + ", old", x.station(station, 5), old);
        Check.same(what + ", new", x.station(station, 6), raised);
    }

    private static void breaks() {
        for (int cause = 0; cause <= 2; cause++) {
            for (int behind = 0; behind < 3; behind++) {
                int next = (behind + 1) % 3;
                for (int off = 0; off < 8; off++) {
                    RankedRing x = Texts.ring(THREE);
                    x.snap(behind, cause);
                    for (int station = 0; station < 3; station++) {
                        if ((off >> station & 1) == 1) {
                            x.off(station);
                        }
                    }
                    int culprit = cause == 0 ? behind : next;
                    boolean counts = cause == 2 || (off >> culprit & 1) == 0;
                    String what = "s1 break behind " + behind + " by " + cause + ", off " + off;
                    Check.same(what, x, x.many(8), counts ? 1 : 0, 0);
                    Check.same(what, x.many(9) * 10 + x.many(10), behind * 10 + cause);
                }
            }
        }
    }

    /** Behind the one station it is ahead of it, too. */
    private static void breakOfOne() {
        for (int cause = 0; cause <= 2; cause++) {
            RankedRing x = Texts.ring("station a 5;");
            x.snap(0, cause);
            Check.same("s1 it counts", x.many(8), 1);
            x.off(0);
            Check.same("s1 it counts if it is the cable's", x.many(8), cause == 2 ? 1 : 0);
        }
        RankedRing x = Texts.ring(THREE + "off a;break c 1;");
        Check.same("s1 behind the last the first, off", x.many(8), 0);
        x.add(1);
        Check.same("s1 behind it another one then", x.many(8), 1);
        x.off(3);
        Check.same("s1 that one off", x.many(8), 0);
    }

    private static void wayRound() {
        RankedRing x = new RankedRing();
        for (int i = 0; i < 8; i++) {
            x.add(i);
        }
        x.monitor(7);
        x.tick(9);
        Check.way("s2 at the last", x, 1, 7, 0, 0, 0);
        for (int i = 0; i < 16; i++) {
            x.tick(1);
            Check.way("s2 behind the last the first, " + i, x, 1, i % 8, 0, 0, 0);
        }
        x.off(0);
        x.off(1);
        x.off(6);
        x.off(7);
        x.tick(1);
        Check.way("s2 over the last and the first", x, 1, 2, 0, 0, 0);
        x.tick(3);
        Check.way("s2 at the last that is on", x, 1, 5, 0, 0, 0);
        x.tick(1);
        Check.way("s2 round to the first that is on", x, 1, 2, 0, 0, 0);
    }

    private static void alone() {
        RankedRing x = Texts.ring(THREE + "monitor a;off b;off c;");
        x.tick(2);
        for (int i = 0; i < 5; i++) {
            Check.way("s2 a token, to itself", x, 1, 0, 0, 0, 0);
            x.tick(1);
        }
        x.send(0, 1, 3);
        x.tick(1);
        Check.way("s2 a frame", x, 2, 0, 0, 0, 0, 0, 1, 3, 0, 0);
        x.tick(1);
        Check.way("s2 missed, round to itself", x, 1, 0, 0, 0, 0);
        Check.same("s2 missed", x.been(1) * 10 + x.been(0), 10);
        x.off(0);
        x.on(1);
        x.tick(1);
        Check.way("s2 from one that is off", x, 1, 1, 0, 0, 0);
    }

    private static void isLost(String what, RankedRing x, int at, int tick) {
        Check.way(what, x, 0);
        Check.same(what + ": silent for 0 ticks", x, x.many(6), 0, 0);
        Check.same(what + ": kind", x.event(0, 0), 2);
        Check.same(what + ": tick", x.event(0, 1), tick);
        Check.same(what + ": at which it was last", x.event(0, 2), at);
    }

    private static void lost() {
        RankedRing x = free();
        x.tick(2);
        x.off(0);
        x.off(1);
        x.off(2);
        x.tick(1);
        isLost("s2 none is on", x, 1, 8);
        x = free();
        x.tick(3);
        x.snap(2, 2);
        x.tick(1);
        isLost("s2 a break between c and z, z off", x, 2, 9);
        x = free();
        x.tick(3);
        x.snap(3, 2);
        x.tick(1);
        isLost("s2 a break between z and a, z off", x, 2, 9);
        x = free();
        x.tick(3);
        x.snap(3, 0);
        x.tick(1);
        Check.way("s2 it counts not, for z is off", x, 1, 0, 0, 0, 0);
        x.mend();
        x.snap(2, 2);
        x.tick(2);
        Check.way("s2 it lies not between", x, 1, 2, 0, 0, 0);
        x.mend();
        x.off(0);
        x.off(1);
        x.snap(0, 2);
        x.tick(1);
        isLost("s2 round to itself, over all", x, 2, 12);
        x.tick(1);
        Check.same("s3 one tick more", x.many(6), 1);
    }

    private static void marked() {
        RankedRing x = Texts.ring(THREE + "monitor a;send b c 4;");
        for (int i = 0; i < 4; i++) {
            x.tick(1);
        }
        x.tick(2);
        Check.way("s2 ahead of the monitor", x, 2, 2, 0, 0, 0, 1, 2, 4, 1, 0);
        x.tick(1);
        Check.way("s2 at the monitor", x, 2, 0, 0, 0, 1, 1, 2, 4, 1, 0);
        x.tick(1);
        Check.way("s2 the token behind it is not", x, 1, 1, 0, 0, 0);
        for (int i = 0; i < 30; i++) {
            x.tick(1);
            Check.same("s2 nor one of level 0 ever", x, x.way(4), 0, 0);
        }
        Check.same("s2 no other purge", x.been(3), 1);
        RankedRing y = free();
        y.send(1, 0, 3);
        y.tick(2);
        y.off(1);
        y.tick(300);
        Check.same("s2 the monitor is off: never marked", y.way(0) * 10 + y.way(4), 20);
        y.on(3);
        y.tick(2);
        Check.same("s2 marked", y.way(1) * 10 + y.way(4), 31);
        y.tick(2);
        Check.same("s2 not yet", y.way(0), 2);
        y.tick(1);
        Check.way("s2 purged", y, 1, 3, 0, 0, 0);
        Check.same("s2 its frame is lost, at the monitor", y.event(1, 0) * 10 + y.event(1, 2), 23);
    }

    /** A level of 1 is above 0. */
    private static void levelOne() {
        RankedRing x = Texts.ring(THREE + "monitor a;send b c 4;send b a 1;");
        x.tick(8);
        Check.way("s2 raised to 1", x, 1, 1, 1, 0, 0);
        couple("s2 from 0 to 1", x, 1, 0, 1);
        x.off(1);
        Check.same("s3 the raises of one that is off go", x.station(1, 4), 0);
        Check.same("p40 the second time", x, x.purged(), 4, 0);
        x.tick(2);
        Check.way("s2 level 1 is marked", x, 1, 0, 1, 0, 1);
        x.tick(1);
        x.send(0, 2, 7);
        x.tick(1);
        Check.way("s2 purged, and nothing more", x, 1, 0, 0, 0, 0);
        Check.same("s2 it waits", x.station(0, 2), 1);
        Check.same("s2 a token is not lost", x.been(2), 0);
        x.tick(2);
        Check.way("s2 it waits no more", x, 2, 0, 0, 0, 0, 0, 2, 7, 0, 2);
    }

    private static void movedMonitor() {
        RankedRing x = Texts.ring(THREE + "monitor a;send b c 4;");
        x.tick(7);
        x.monitor(1);
        x.tick(1);
        Check.way("s2 purged where it is from", x, 1, 1, 0, 0, 0);
        Check.same("s2 neither got nor missed", x.been(0) + x.been(1), 0);
        Check.same("s2 lost", x.been(2) * 10 + x.been(3), 12);
        x = Texts.ring(THREE + "monitor a;send b c 4;send b a 2;");
        x.tick(10);
        Check.way("s2 a token, marked", x, 1, 0, 2, 0, 1);
        x.monitor(1);
        x.tick(1);
        Check.way("s2 purged where it would be lowered", x, 1, 1, 0, 0, 0);
        Check.same("s2 the raise goes, the frame waits", x.station(1, 4) * 10 + x.station(1, 2), 1);
    }

    private static void fromTheMonitor() {
        RankedRing x = Texts.ring(THREE + "monitor b;send b a 1;");
        x.tick(7);
        Check.way("s2 of the monitor: not marked", x, 2, 1, 0, 0, 0, 1, 0, 1, 0, 0);
        x.tick(2);
        Check.way("s2 copied", x, 2, 0, 0, 0, 0, 1, 0, 1, 1, 0);
        x.tick(1);
        Check.way("s2 got", x, 1, 1, 0, 0, 0);
        Check.same("s2 no other purge", x.been(0) * 10 + x.been(3), 11);
    }

    /** At tick 13 the token is at b, level 5; a's raise is from 0 to 1, b's from 1 to 5; 1 (rank 1) waits at a. */
    private static RankedRing twoRaises() {
        RankedRing x = free();
        x.send(0, 1, 7);
        x.send(0, 1, 1);
        x.tick(4);
        Check.way("s2 raised at a", x, 1, 0, 1, 0, 0);
        x.send(1, 0, 6);
        x.send(1, 0, 5);
        x.tick(1);
        Check.way("s2 taken at b", x, 2, 1, 1, 0, 0, 1, 0, 6, 0, 2);
        x.tick(2);
        Check.way("s2 a's wish", x, 2, 0, 1, 1, 0, 1, 0, 6, 1, 2);
        x.tick(1);
        Check.way("s2 raised at b", x, 1, 1, 5, 0, 0);
        couple("s2 a", x, 0, 0, 1);
        couple("s2 b", x, 1, 1, 5);
        x.take(3);
        return x;
    }

    private static void loweredToOld() {
        RankedRing x = twoRaises();
        x.tick(2);
        Check.way("s2 1 is not the level 5", x, 1, 0, 5, 1, 0);
        couple("s2 a's stays", x, 0, 0, 1);
        x.tick(1);
        // the wish 1 is not above the old level 1
        Check.way("s2 lowered to the old level, the wish stays", x, 1, 1, 1, 1, 0);
        Check.same("s2 that couple goes", x.station(1, 4), 0);
        x.tick(1);
        Check.way("s2 on to c", x, 1, 2, 1, 1, 0);
        x.tick(1);
        Check.way("s2 to the wish, and taken at its level", x, 2, 0, 1, 0, 0, 0, 1, 1, 0, 1);
        couple("s2 the wish 1 is above the old level 0", x, 0, 0, 1);
        x.tick(3);
        Check.way("s2 got at its level", x, 1, 0, 1, 0, 0);
        x.tick(3);
        Check.way("s2 no wish: to the old level", x, 1, 0, 0, 0, 0);
        Check.same("s2 the last couple goes", x.station(0, 4), 0);
        RankedRing y = marking(0);
        y.tick(3);
        Check.way("s2 marked, to the old level: not marked then", y, 1, 0, 0, 0, 0);
    }

    private static void loweredToWish() {
        RankedRing x = twoRaises();
        x.send(2, 0, 2);
        x.tick(2);
        Check.way("s2 the rank 1 is not above the wish 2", x, 1, 0, 5, 2, 0);
        x.tick(1);
        Check.way("s2 lowered to the wish", x, 1, 1, 2, 0, 0);
        couple("s2 that new one is the wish", x, 1, 1, 2);
        x.tick(1);
        Check.way("s2 taken at c", x, 2, 2, 2, 0, 0, 2, 0, 2, 0, 4);
        x.tick(3);
        Check.way("s2 got at c, a wish below its level", x, 1, 2, 2, 1, 0);
        x.tick(1);
        Check.way("s2 the rank 1 is not above the wish 1", x, 1, 0, 2, 1, 0);
        x.tick(1);
        Check.way("s2 to the old level", x, 1, 1, 1, 1, 0);
        RankedRing y = marking(3);
        y.tick(3);
        Check.way("s2 marked, to the wish: not marked then", y, 1, 0, 3, 0, 0);
        couple("s2 from 0 to 3", y, 0, 0, 3);
        y.shed(1, 8);
        y.tick(2);
        Check.way("s2 marked again", y, 1, 2, 3, 0, 1);
        y.tick(1);
        Check.way("s2 and lowered again", y, 1, 0, 0, 0, 0);
        Check.same("s2 no purge but the first", y.been(3), 1);
    }

    /** At tick 8 the token is at a, level 5, raised from 0; then c, the monitor, marks it; b wishes for a rank. */
    private static RankedRing marking(int rank) {
        RankedRing x = Texts.ring(THREE + "monitor c;send a b 7;send a b 5;");
        x.tick(8);
        Check.way("s2 raised to 5", x, 1, 0, 5, 0, 0);
        x.take(1);
        x.send(1, 0, rank);
        x.mark();
        x.tick(2);
        Check.way("s2 marked at c", x, 1, 2, 5, rank, 1);
        x.back();
        return x;
    }

    private static void takenAtLevel() {
        RankedRing x = free();
        x.send(0, 1, 7);
        x.send(0, 1, 3);
        x.tick(4);
        Check.way("s2 raised to 3", x, 1, 0, 3, 0, 0);
        x.send(1, 0, 2);
        x.send(2, 0, 3);
        x.tick(1);
        Check.way("s2 2 is below the level 3", x, 1, 1, 3, 2, 0);
        x.tick(1);
        Check.way("s2 3 is not; its wish is 0", x, 2, 2, 3, 0, 0, 2, 0, 3, 0, 3);
        x.tick(2);
        Check.way("s2 2 is not above the wish 3", x, 2, 1, 3, 3, 0, 2, 0, 3, 1, 3);
        x.tick(1);
        Check.way("s2 a wish of the level is not above it", x, 1, 2, 3, 3, 0);
        Check.same("s2 no couple", x.station(2, 4), 0);
        x.tick(1);
        Check.way("s2 lowered to it, and taken", x, 2, 0, 3, 0, 0, 0, 1, 3, 0, 1);
        x.send(0, 1, 6);
        x.tick(1);
        Check.way("s2 copied, and wished for at the same", x, 2, 1, 3, 2, 0, 0, 1, 3, 1, 1);
        x.tick(2);
        Check.way("s2 the rank 6 is greater than the wish 2", x, 1, 0, 6, 0, 0);
        couple("s2 the topmost new one was the level", x, 0, 0, 6);
        Check.same("s2 one couple", x.station(0, 4), 1);
        x.tick(3);
        Check.way("s2 lowered to the wish 2, and taken", x, 2, 0, 2, 0, 0, 0, 1, 6, 0, 4);
        x.tick(3);
        Check.way("s2 got", x, 1, 0, 2, 2, 0);
        x.tick(1);
        Check.way("s2 the wish is granted", x, 2, 1, 2, 0, 0, 1, 0, 2, 0, 2);
        x.tick(3);
        Check.way("s2 none waits: no wish", x, 1, 1, 2, 0, 0);
        x.tick(2);
        Check.way("s2 level 0", x, 1, 0, 0, 0, 0);
        Check.same("s2 five were got", x.been(0) * 10 + x.been(6), 56);
    }

    private static void raisedByWish() {
        RankedRing x = free();
        x.send(0, 1, 7);
        x.send(0, 1, 1);
        x.send(2, 0, 4);
        x.tick(4);
        Check.way("s2 the wish 4 is greater than the rank 1", x, 1, 0, 4, 0, 0);
        couple("s2 from 0 to 4", x, 0, 0, 4);
        x.tick(2);
        Check.way("s2 it is taken", x, 2, 2, 4, 0, 0, 2, 0, 4, 0, 2);
        x.send(2, 1, 5);
        x.tick(3);
        Check.way("s2 one above the level", x, 1, 2, 5, 0, 0);
        couple("s2 a's is another level: one more at c", x, 2, 4, 5);
        couple("s2 a's stays", x, 0, 0, 4);
    }

    private static void missed() {
        RankedRing x = free();
        x.send(0, 3, 2);
        x.send(0, 1, 2);
        x.tick(4);
        Check.way("s2 to one that is off", x, 1, 0, 2, 0, 0);
        Check.same("s2 missed, not got", x.been(1) * 10 + x.been(0), 10);
        Check.same("s3 missed from a", x.event(0, 0) * 1000 + x.event(0, 1) * 10 + x.event(0, 2), 1090);
        Check.same("s2 no age of it", x.been(8) + x.been(9) + x.ranks(2, 1) + x.station(0, 8), 0);
        // round to a at 12, lowered and taken there
        x.tick(4);
        Check.way("s2 copied at b", x, 2, 1, 0, 0, 0, 0, 1, 2, 1, 1);
        x.off(1);
        x.tick(2);
        Check.same("s2 got, though it is off now", x.been(0) * 10 + x.station(1, 9), 11);
    }

    private static void fromOneThatIsOff() {
        RankedRing x = free();
        x.send(1, 0, 2);
        x.tick(2);
        x.off(1);
        Check.refused("p34 it goes on round", x, x.quiet(false), 7);
        Check.refused("p35 it goes on round", x, x.when(0, false), 7);
        Check.refused("p39 it goes on round", x, x.healed(), 7);
        x.tick(4);
        Check.way("s3 from b still", x, 2, 0, 0, 0, 0, 1, 0, 2, 1, 0);
        x.on(1);
        Check.same("p35 it is got", x, x.when(0, false), 1, 0);
        x.tick(1);
        Check.way("s3 got where it is on again", x, 1, 1, 0, 0, 0);
        Check.same("s3 its age: it came at 5", x.got(0, 4) * 100 + x.got(0, 5), 1207);
    }

    /** n stations that are on, and one that is off ahead of them and one behind them if there is room. */
    private static RankedRing silent(int n) {
        RankedRing x = new RankedRing();
        int more = n < 7 ? 1 : 0;
        for (int i = 0; i < n + 2 * more; i++) {
            x.add((i * 37 + 50) % 100);
        }
        if (more == 1) {
            x.off(0);
            x.off(n + 1);
        }
        return x;
    }

    private static void silences() {
        for (int n = 1; n <= 8; n++) {
            int first = n < 7 ? 1 : 0;
            RankedRing x = silent(n);
            x.monitor(first);
            x.tick(n);
            Check.way("s3 purge, not yet of " + n, x, 0);
            x.tick(1);
            Check.way("s3 purge at n and 1 of " + n, x, 1, first, 0, 0, 0);
            Check.same("s3 its event", x.event(0, 0) * 1000 + x.event(0, 1) * 10 + x.event(0, 2),
                3000 + (n + 1) * 10 + first);
            claimOf(n);
            beaconOf(n);
        }
    }

    private static void claimOf(int n) {
        RankedRing x = silent(n);
        x.tick(n);
        Check.same("s3 no claim yet of " + n, x.beacon(0), 0);
        x.tick(1);
        Check.same("s3 a claim at n and 1 of " + n, x.beacon(0), 1);
        Check.same("s3 it is told", x.been(4) * 10 + x.event(0, 0), 14);
        Check.same("s3 with the greatest address", x.event(0, 2), x.heir());
        for (int k = n + 2; k <= n + n; k++) {
            x.tick(1);
            Check.same("s3 a claim still of " + n, x.beacon(0) * 10 + x.many(2), 9);
        }
        x.tick(1);
        Check.same("s3 the monitor at n and n and 1 of " + n, x, x.many(2), x.heir(), 0);
        Check.way("s3 a token of " + n, x, 1, x.heir(), 0, 0, 0);
        Check.same("s3 its events", x.event(1, 0) * 10 + x.event(0, 0), 73);
        Check.same("s3 the one that is it", x.event(1, 2), x.heir());
        Check.same("s3 no claim any more of " + n, x.beacon(0), 0);
    }

    private static void beaconOf(int n) {
        int first = n < 7 ? 1 : 0;
        int tail = first + n - 1;
        for (int cause = 0; cause <= 2; cause++) {
            RankedRing x = silent(n);
            x.monitor(first);
            // behind the one that is off if there is one: by the cable alone it counts then
            x.snap(cause == 0 ? tail : first == 0 ? n - 1 : 0, cause);
            int falls = n + n + (cause == 0 || cause == 1 && n == 1 ? 1 : 2);
            x.tick(n);
            Check.same("s3 no beacon yet of " + n, x.beacon(0), 0);
            x.tick(1);
            Check.same("s3 a beacon at n and 1 of " + n, x.beacon(0) * 100 + x.beacon(1) * 10 + x.beacon(2),
                200 + tail * 10 + first);
            Check.same("s3 it is told with its tail", x.event(0, 0) * 10 + x.event(0, 2), 50 + tail);
            int bits = x.many(1);
            for (int k = n + 2; k < falls; k++) {
                x.tick(1);
                Check.same("s3 all are on still of " + n, x.many(1) * 100 + x.many(6), bits * 100 + k);
            }
            x.tick(1);
            if (cause == 2) {
                Check.same("s3 the cable: all stay on of " + n, x.many(1) * 100 + x.many(6), bits * 100 + falls);
                Check.same("s3 and the beacon stays of " + n, x.beacon(0), 2);
                continue;
            }
            int fell = cause == 0 ? tail : first;
            Check.same("s3 that one is off of " + n, x.many(1), bits - (1 << fell));
            Check.same("s3 silent for 0 ticks of " + n, x.many(6) * 10 + x.beacon(0), 0);
            Check.same("s3 it is told of " + n, x.event(0, 0) * 10 + x.event(0, 2), 60 + fell);
            Check.same("s3 the break counts no more of " + n, x.many(8), 0);
        }
    }

    private static void noneOn() {
        for (int cause = -1; cause <= 2; cause++) {
            RankedRing x = Texts.ring(THREE + "monitor b;off a;off b;off c;send a b 1;");
            if (cause >= 0) {
                x.snap(1, cause);
            }
            for (int i = 1; i <= 12; i++) {
                x.tick(1);
                Check.same("s3 none is on: silent", x, x.many(6), i, 0);
                Check.same("s3 none is on: no beacon, no claim", x, x.beacon(0), 0, 0);
            }
            Check.refused("s3 none is on: nothing comes of it", x, x.event(0, 0), 5);
            Check.same("s3 none is on: nor is counted", x.been(3) + x.been(4) + x.been(5), 0);
            Check.refused("p39 none is on", x, x.healed(), 7);
            Check.same("p34 it waits where it is off", x, x.quiet(false), 0, 0);
            x.on(2);
            Check.same("s3 on: silent for 0 ticks", x.many(6), 0);
        }
        RankedRing x = Texts.ring(THREE + "monitor a;off b;break a 1;");
        x.tick(3);
        Check.way("s3 a break that does not count: a purge", x, 1, 0, 0, 0, 0);
    }

    private static void paths() {
        String five = "station a 5;station b 9;station c 7;station d 3;station e 1;monitor d;";
        for (int behind = 0; behind < 5; behind++) {
            for (int off = 0; off < 31; off++) {
                RankedRing x = Texts.ring(five);
                x.snap(behind, 2);
                for (int i = 0; i < 5; i++) {
                    if ((off >> i & 1) == 1) {
                        x.off(i);
                    }
                }
                int tail = behind;
                while ((off >> tail & 1) == 1) {
                    tail = (tail + 4) % 5;
                }
                int head = (behind + 1) % 5;
                while ((off >> head & 1) == 1) {
                    head = (head + 1) % 5;
                }
                x.tick(1 + 5 - Integer.bitCount(off));
                Check.same("s3 path over " + behind + ", off " + off, x.beacon(0) * 100 + x.beacon(1) * 10 + x.beacon(2),
                    200 + tail * 10 + head);
            }
        }
    }

    /** Four stations, d off, with a claim, or a beacon, that stands. */
    private static RankedRing sign(int kind) {
        RankedRing x = Texts.ring(THREE + "station d 1;off d;send a b 2;" + (kind == 2 ? "break a 2;" : ""));
        x.tick(5);
        Check.same("s3 it stands", x.beacon(0) * 10 + x.many(6), kind * 10 + 5);
        return x;
    }

    private static void goes(String what, RankedRing x) {
        Check.same("s3 silent for 0 ticks behind " + what, x, x.many(6), 0, 0);
        Check.same("s3 neither behind " + what, x, x.beacon(0), 0, 0);
    }

    private static void resets() {
        for (int kind = 1; kind <= 2; kind++) {
            RankedRing x = sign(kind);
            x.add(0);
            goes("add", x);
            x = sign(kind);
            x.off(0);
            goes("off", x);
            x.tick(3);
            Check.same("s3 it begins again with n as it is then", x.beacon(0), kind);
            x = sign(kind);
            x.on(3);
            goes("on", x);
            x = sign(1);
            x.snap(3, kind);
            goes("snap", x);
            x = sign(2);
            x.mend();
            goes("mend", x);
            x = sign(kind);
            x.monitor(1);
            x.send(0, 1, 2);
            x.take(0);
            x.shed(0, 8);
            x.mark();
            x.notice();
            x.stale();
            x.lose();
            x.feed(0, 0, 0, 0, 0);
            x.gain();
            Check.same("s3 by no other call", x.beacon(0) * 10 + x.many(6), kind * 10 + 5);
        }
        RankedRing x = sign(1);
        x.monitor(2);
        x.tick(2);
        Check.same("s3 the claim goes on with a monitor that is on", x.many(2), 1);
        Check.same("s3 and its purge", x.way(0) * 10 + x.way(1), 11);
    }

    private static void keptOnItsWay() {
        RankedRing x = Texts.ring(THREE + "station d 1;monitor a;off d;send b c 4;send b a 2;");
        for (int ticks = 0; ticks < 12; ticks++) {
            RankedRing due = Texts.ring(THREE + "station d 1;monitor a;off d;send b c 4;send b a 2;");
            due.tick(4 + ticks);
            x.mark();
            x.tick(4 + ticks);
            x.add(50);
            x.snap(0, 2);
            x.mend();
            x.on(3);
            x.off(3);
            for (int what = 0; what <= 9; what++) {
                Check.same("s3 kept on its way, " + ticks, x.way(what), due.way(what));
            }
            Check.same("s3 not silent", x, x.many(6), -1, 0);
            x.back();
        }
    }

    private static void raisesGoByBeacon() {
        RankedRing x = Texts.ring(THREE + "monitor a;send b c 4;send b a 2;");
        x.tick(8);
        x.snap(1, 0);
        x.tick(1);
        isLost("s2 the token of b", x, 1, 9);
        couple("s3 b's raise stays", x, 1, 0, 2);
        Check.same("p38 it goes by the beacon", x, x.lowered(), 7, 0);
        x.tick(6);
        Check.same("s3 not yet", x.station(1, 4) * 10 + x.station(1, 1), 11);
        x.tick(1);
        Check.same("s3 off by the beacon: its raises go", x.station(1, 4) * 10 + x.station(1, 1), 0);
        Check.same("s3 what waits stays", x.station(1, 2), 1);
        Check.same("s3 it is told", x.event(0, 0) * 1000 + x.event(0, 1) * 10 + x.event(0, 2), 6161);
        x = Texts.ring(THREE + "monitor a;send b c 4;send b a 2;");
        x.tick(8);
        x.lose();
        couple("s3 b's raise stays behind lose", x, 1, 0, 2);
        Check.same("p38 it goes by the purge", x, x.lowered(), 4, 0);
        x.tick(4);
        Check.same("s2 all raises go by a purge", x.station(1, 4), 0);
    }
}

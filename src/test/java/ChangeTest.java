import java.util.function.Consumer;
import java.util.function.Supplier;

/** Promises 18 to 33: what a call changes, and that it changes no more of all that can be seen. */
public final class ChangeTest {
    private static final String FOUR = "station a 5;station b 9;station c 7;station d 1;off d;";

    public static void main(String[] args) {
        inClaim();
        inBeacon();
        withToken();
        withFrame();
        marks();
        Check.end("ChangeTest");
    }

    private static void change(String what, Supplier<RankedRing> maker, Consumer<RankedRing> call, String due) {
        RankedRing x = maker.get();
        Look ahead = new Look(x);
        call.accept(x);
        Check.same(what + ", its status", x.status(), 0);
        Check.same(what, ahead.changesTo(new Look(x)), due);
    }

    /** Four stations, d off, no monitor; silent for 5 ticks, a claim. a: 0 (rank 2), 1 (rank 4) to b; d: 2 (rank 0) to a. */
    private static RankedRing claim() {
        RankedRing x = Texts.ring(FOUR + "send a b 2;send a b 4;send d a 0;");
        x.tick(5);
        return x;
    }

    private static void inClaim() {
        Supplier<RankedRing> claim = ChangeTest::claim;
        change("p18 add", claim, x -> x.add(50), "beacon 0: 1 0, many 0: 4 5, many 1: 7 23, many 6: 5 0, stale: 7 23, "
            + "station 4 0: _ 50, station 4 1: _ 1, station 4 2: _ 0, station 4 3: _ -1, station 4 4: _ 0, "
            + "station 4 5: _ -1, station 4 6: _ -1, station 4 7: _ -1, station 4 8: _ 0, station 4 9: _ 0");
        change("p19 send, not the first", claim, x -> x.send(0, 2, 4), "many 3: 3 4, many 4: 3 4, ranks 4: 1 2, "
            + "station 0 2: 2 3, waits 0 2 0: _ 3, waits 0 2 1: _ 2, waits 0 2 2: _ 4");
        change("p19 send, the first", claim, x -> x.send(3, 2, 1), "many 3: 3 4, many 4: 3 4, ranks 1: 0 1, "
            + "station 3 2: 1 2, station 3 3: 2 3, waits 3 1 0: _ 3, waits 3 1 1: _ 2, waits 3 1 2: _ 1");
        change("p20 take", claim, x -> x.take(0), "many 3: 3 2, ranks 2: 1 0, station 0 2: 2 1, "
            + "waits 0 0 0: 0 1, waits 0 0 2: 2 4, waits 0 1 0: 1 _, waits 0 1 1: 1 _, waits 0 1 2: 4 _");
        change("p21 shed", claim, x -> x.shed(0, 4), "many 3: 3 2, ranks 2: 1 0, station 0 2: 2 1, "
            + "waits 0 0 0: 0 1, waits 0 0 2: 2 4, waits 0 1 0: 1 _, waits 0 1 1: 1 _, waits 0 1 2: 4 _");
        change("p21 shed, none", claim, x -> x.shed(0, 2), "");
        change("p22 off", claim, x -> x.off(0), "beacon 0: 1 0, many 1: 7 6, many 6: 5 0, stale: 7 6, station 0 1: 1 0");
        change("p23 on", claim, x -> x.on(3), "beacon 0: 1 0, many 1: 7 15, many 6: 5 0, stale: 7 15, station 3 1: 0 1");
        change("p24 monitor", claim, x -> x.monitor(2), "many 2: -1 2");
        change("p24 monitor, off", claim, x -> x.monitor(3), "many 2: -1 3");
        change("p26 snap", claim, x -> x.snap(1, 2), "beacon 0: 1 0, many 10: -1 2, many 6: 5 0, many 8: 0 1, many 9: -1 1");
        change("p26 snap, not to count", claim, x -> x.snap(3, 0), "beacon 0: 1 0, many 10: -1 0, many 6: 5 0, many 9: -1 3");
        change("p28 tick", claim, x -> x.tick(1), "many 5: 5 6, many 6: 5 6");
        change("p29 run", claim, x -> x.run(1, 0, 0), "many 5: 5 6, many 6: 5 6");
        change("p28 the claim's end", claim, x -> x.tick(2), "beacon 0: 1 0, been 3: 0 1, event 0: 414 713, event 1: _ 717, "
            + "event 2: _ 414, many 2: -1 1, many 5: 5 7, many 6: 5 -1, way 0: 0 1, way 1: -1 1, way 2: -1 0, way 3: -1 0, "
            + "way 4: -1 0");
        change("p31 stale", claim, RankedRing::stale, "");
        change("p32 mark", claim, RankedRing::mark, "many 7: 0 1");
    }

    private static RankedRing beacon() {
        RankedRing x = Texts.ring(FOUR + "monitor a;send a b 2;break b 1;");
        x.tick(5);
        return x;
    }

    private static void inBeacon() {
        Supplier<RankedRing> beacon = ChangeTest::beacon;
        String gone = "beacon 0: 2 0, beacon 1: 1 -1, beacon 2: 2 -1, ";
        change("p27 mend", beacon, x -> x.mend(), gone + "many 10: 1 -1, many 6: 5 0, many 8: 1 0, many 9: 1 -1");
        change("p22 off", beacon, x -> x.off(2), gone + "many 1: 7 3, many 6: 5 0, many 8: 1 0, stale: 7 3, station 2 1: 1 0");
        change("p24 monitor", beacon, x -> x.monitor(1), "many 2: 0 1");
        change("p28 nothing yet", beacon, x -> x.tick(2), "many 5: 5 7, many 6: 5 7");
        change("p28 the head falls", beacon, x -> x.tick(3), gone + "event 0: 415 826, event 1: _ 415, many 1: 7 3, "
            + "many 5: 5 8, many 6: 5 0, many 8: 1 0, stale: 7 3, station 2 1: 1 0");
        RankedRing x = beacon();
        x.load(0);
        Look.sameThrough("p04 all of it goes by a load", x, loaded());
    }

    private static RankedRing loaded() {
        RankedRing x = new RankedRing();
        x.load(0);
        return x;
    }

    /** At tick 8 the token is at b, of level 2, which b raised; frame 1 (rank 2) waits there. */
    private static RankedRing token() {
        RankedRing x = Texts.ring(FOUR + "monitor a;send b c 4;send b a 2;");
        x.tick(8);
        return x;
    }

    private static void withToken() {
        Supplier<RankedRing> token = ChangeTest::token;
        change("p18 add", token, x -> x.add(0), "many 0: 4 5, many 1: 7 23, stale: 7 23, "
            + "station 4 0: _ 0, station 4 1: _ 1, station 4 2: _ 0, station 4 3: _ -1, station 4 4: _ 0, "
            + "station 4 5: _ -1, station 4 6: _ -1, station 4 7: _ -1, station 4 8: _ 0, station 4 9: _ 0");
        change("p22 off", token, x -> x.off(1), "many 1: 7 5, raise 1 0 new: 2 _, raise 1 0 old: 0 _, stale: 7 5, "
            + "station 1 1: 1 0, station 1 4: 1 0, station 1 5: 0 -1, station 1 6: 2 -1");
        change("p22 off, another one", token, x -> x.off(0), "many 1: 7 6, stale: 7 6, station 0 1: 1 0");
        change("p23 on", token, x -> x.on(3), "many 1: 7 15, stale: 7 15, station 3 1: 0 1");
        change("p24 monitor", token, x -> x.monitor(1), "many 2: 0 1");
        change("p25 lose", token, RankedRing::lose, "been 2: 0 1, event 0: 810 812, event 1: 403 810, event 2: _ 403, "
            + "many 6: -1 0, way 0: 1 0, way 1: 1 -1, way 2: 2 -1, way 3: 0 -1, way 4: 0 -1");
        change("p26 snap", token, x -> x.snap(1, 2), "many 10: -1 2, many 8: 0 1, many 9: -1 1");
        change("p28 tick", token, x -> x.tick(1), "many 5: 8 9, way 1: 1 2");
        change("p28 marked", token, x -> x.tick(2), "many 5: 8 10, way 1: 1 0, way 4: 0 1");
        change("p28 lowered and taken", token, x -> x.tick(3), "many 3: 1 0, many 5: 8 11, raise 1 0 new: 2 _, "
            + "raise 1 0 old: 0 _, ranks 2: 1 0, station 1 2: 1 0, station 1 3: 1 -1, station 1 4: 1 0, station 1 5: 0 -1, "
            + "station 1 6: 2 -1, waits 1 0 0: 1 _, waits 1 0 1: 0 _, waits 1 0 2: 2 _, way 0: 1 2, way 2: 2 0, way 5: -1 1, "
            + "way 6: -1 0, way 7: -1 2, way 8: -1 0, way 9: -1 1");
        change("p30 notice", token, RankedRing::notice, "stale: 7 0, station 0 7: -1 2, station 1 7: -1 0, station 2 7: -1 1");
    }

    /** At tick 7 b's frame 0 is at the monitor a, marked and copied; 1 (rank 2) waits at b. All know each other. */
    private static RankedRing frame() {
        RankedRing x = Texts.ring(FOUR + "monitor a;send b c 4;send b a 2;");
        x.tick(4);
        x.notice();
        x.tick(3);
        return x;
    }

    private static void withFrame() {
        Supplier<RankedRing> frame = ChangeTest::frame;
        change("p22 off, where it is from", frame, x -> x.off(1), "many 1: 7 5, stale: 0 4, station 1 1: 1 0");
        change("p23 on", frame, x -> x.on(3), "many 1: 7 15, stale: 0 9, station 3 1: 0 1");
        change("p24 monitor", frame, x -> x.monitor(3), "many 2: 0 3");
        change("p25 lose", frame, RankedRing::lose, "been 2: 0 1, event 0: 403 702, event 1: _ 403, many 6: -1 0, way 0: 2 0, "
            + "way 1: 0 -1, way 2: 0 -1, way 3: 0 -1, way 4: 1 -1, way 5: 1 -1, way 6: 2 -1, way 7: 4 -1, way 8: 1 -1, "
            + "way 9: 0 -1");
        change("p28 got", frame, x -> x.tick(1), "been 0: 0 1, been 6: 0 2, been 8: 0 8, been 9: 0 8, event 0: 403 810, "
            + "event 1: _ 403, got 0 0: _ 0, got 0 1: _ 1, got 0 2: _ 2, got 0 3: _ 4, got 0 4: _ 8, got 0 5: _ 8, many 5: 7 8, "
            + "raise 1 0 new: _ 2, raise 1 0 old: _ 0, ranks 4: 0 800100, station 1 4: 0 1, station 1 5: -1 0, "
            + "station 1 6: -1 2, station 1 8: 0 1, station 2 9: 0 1, way 0: 2 1, way 1: 0 1, way 2: 0 2, way 4: 1 0, "
            + "way 5: 1 -1, way 6: 2 -1, way 7: 4 -1, way 8: 1 -1, way 9: 0 -1");
        Supplier<RankedRing> purged = () -> {
            RankedRing x = frame();
            x.off(1);
            x.tick(1);
            return x;
        };
        change("p28 purged", purged, x -> x.tick(1), "been 2: 0 1, been 3: 1 2, event 0: 403 903, event 1: _ 902, event 2: _ 403, "
            + "many 5: 8 9, way 0: 2 1, way 1: 2 0, way 4: 1 0, way 5: 1 -1, way 6: 2 -1, way 7: 4 -1, way 8: 1 -1, way 9: 0 -1");
    }

    /** All but the marks is as it was, whatever was done. */
    private static void marks() {
        change("p33 back", () -> {
            RankedRing x = frame();
            x.mark();
            return x;
        }, RankedRing::back, "many 7: 1 0");
        change("p33 back from afar", () -> {
            RankedRing x = frame();
            x.mark();
            return x;
        }, x -> {
            x.off(1);
            x.tick(30);
            x.add(50);
            x.snap(0, 1);
            x.run(100, 9, 12);
            x.monitor(2);
            x.shed(0, 8);
            Texts.load(x, FOUR + "A");
            Texts.load(x, FOUR);
            x.back();
        }, "many 7: 1 0");
    }
}

/** Promises 1 to 5: a new object, the status, the tape, texts and their faults. */
public final class TextTest {
    private static final String THREE = "station a 5;station b 9;station c 7;";
    private static final String EIGHT = "station a 1;station b 2;station c 3;station d 4;"
        + "station e 5;station f 6;station g 7;station h 8;";
    private static final String SIX_SENDS = "send a b 0;send a b 1;send a c 2;send a c 3;send a b 7;send a b 5;";

    public static void main(String[] args) {
        newObject();
        status();
        feed();
        feedBytes();
        load();
        loadForgets();
        loadRefuses();
        textsThatAreTaken();
        faultKinds();
        faultOrder();
        fault();
        Check.end("TextTest");
    }

    private static void newObject() {
        RankedRing x = new RankedRing();
        Check.same("p01 NONE", RankedRing.NONE, -1);
        Check.same("p01 status", x.status(), 0);
        int[] due = {0, 0, -1, 0, 0, 0, 0, 0, 0, -1, -1};
        for (int what = 0; what < due.length; what++) {
            Check.same("p01 many " + what, x, x.many(what), due[what], 0);
        }
        Check.refused("p01 no marks", x, x.back(), 5);
        Check.refused("p01 the tape is empty", x, x.load(1), 1);
        Check.same("p01 fed", x.feed(0, 0, 0, 0, 0), 20);
    }

    private static void status() {
        RankedRing x = new RankedRing();
        Check.refused("p02 way", x, x.way(1), 6);
        x.feed(1, 2, 3, 4, 5);
        x.fault(0);
        x.fault(9);
        Check.same("p02 feed and fault have none", x.status(), 6);
        Check.same("p02 status has none itself", x.status(), 6);
        x.stale();
        Check.same("p02 the latest", x.status(), 0);
        x.station(0, 0);
        Check.same("p02 the latest again", x.status(), 2);
    }

    private static void feed() {
        RankedRing x = new RankedRing();
        for (int i = 1; i <= 25; i++) {
            Check.same("p03 feed " + i, x.feed(0x20202020, 0x20202020, 0x20202020, 0x20202020, 0x0a0a0a0a), 20L * i);
        }
        Check.same("p03 one too many", x.feed(0, 0, 0, 0, 0), -1);
        Check.same("p03 nothing came of it", x, x.load(500), 0, 0);
        Check.same("p03 empty again", x.feed(0, 0, 0, 0, 0), 20);
    }

    private static void feedBytes() {
        RankedRing x = new RankedRing();
        // "off " and then the signs 250, 251, 252, 253
        x.feed(0x6f666620, 0xfafbfcfd, -1, -1, -1);
        x.load(20);
        Check.same("p03 highest first, kind", x.fault(0), 1);
        Check.same("p03 highest first, place", x.fault(1), 4);
        x.feed(0x20202020, 0x20202020, 0x20202020, 0x20202020, 0x2020203b);
        x.load(20);
        Check.same("p03 the last byte, kind", x.fault(0), 2);
        Check.same("p03 the last byte, place", x.fault(1), 19);
    }

    private static void load() {
        RankedRing x = new RankedRing();
        Check.same("p04 none", x, x.load(0), 0, 0);
        Check.same("p04 three", x, Texts.load(x, THREE + "off b;monitor c;" + "send a b 3;break b 1;"), 3, 0);
        int[] many = {3, 5, 2, 1, 1, 0, 0, 0, 1, 1, 1};
        for (int what = 0; what < many.length; what++) {
            Check.same("p04 many " + what, x, x.many(what), many[what], 0);
        }
        Check.same("p04 address", x.station(1, 0), 9);
        Check.same("p04 waits", x.waits(0, 0, 2), 3);
        Check.same("p04 way", x.way(0), 0);
        Texts.feed(x, THREE + "station d 8;");
        Check.same("p04 the first bytes", x, x.load(12), 1, 0);
        Check.refused("p04 the others are gone", x, x.load(1), 1);
        Check.same("p04 one station", x.many(0), 1);
    }

    private static void loadForgets() {
        RankedRing x = Texts.ring(THREE + "monitor a;send b c 7;send b a 3;break c 0;");
        x.mend();
        x.send(1, 0, 1);
        x.run(100, 7, 12);
        x.notice();
        x.mark();
        x.next(40, false);
        Check.same("p04 load", x, Texts.load(x, THREE), 3, 0);
        int[] many = {3, 7, -1, 0, 0, 0, 0, 1, 0, -1, -1};
        for (int what = 0; what < many.length; what++) {
            Check.same("p04 anew, many " + what, x.many(what), many[what]);
        }
        for (int what = 0; what < 10; what++) {
            Check.same("p04 anew, been " + what, x.been(what), 0);
        }
        for (int rank = 0; rank < 8; rank++) {
            Check.same("p04 anew, ranks got", x.ranks(rank, 1) + x.ranks(rank, 2), 0);
        }
        for (int what = 2; what < 10; what++) {
            boolean number = what == 2 || what == 4 || what > 7;
            Check.same("p04 anew, station " + what, x.station(1, what), number ? 0 : -1);
        }
        Check.refused("p04 anew, events", x, x.event(0, 0), 5);
        Check.refused("p04 anew, got", x, x.got(0, 0), 5);
        Check.same("p04 anew, way", x.way(0), 0);
        Check.same("p04 marks stay", x, x.back(), 0, 0);
        Check.same("p04 the ring of the mark", x.many(2), 0);
    }

    private static void loadRefuses() {
        RankedRing x = Texts.ring(THREE);
        x.tick(5);
        x.feed(0x20202020, 0, 0, 0, 0);
        Check.refused("p04 below 0", x, x.load(-1), 1);
        Check.refused("p04 above all", x, x.load(21), 1);
        Check.refused("p04 far above", x, x.load(Integer.MAX_VALUE), 1);
        Check.same("p04 the tape stays", x.feed(0, 0, 0, 0, 0), 40);
        Check.refused("p04 a fault", x, x.load(5), 9);
        Check.same("p04 the old one stays", x.many(0), 3);
        Check.same("p04 its ticks, too", x.many(5), 5);
        Check.same("p04 the tape is empty behind a fault", x.feed(0, 0, 0, 0, 0), 20);
    }

    private static void textsThatAreTaken() {
        String[] texts = {"", " \n \n", THREE + "\n ", "station abcdefgh 0099;", "station a5;station\nb  6\n;", EIGHT,
            EIGHT + "break h 2;monitor a;monitor b;monitor b;off a;send a b 0;", THREE + SIX_SENDS,
            "station stations 1;station offs 2;station mon 3;off offs;", THREE + "off a;off b;off c;monitor c;"};
        int[] stations = {0, 0, 3, 1, 2, 8, 8, 3, 3, 3};
        for (int i = 0; i < texts.length; i++) {
            RankedRing x = new RankedRing();
            Check.same("p04 taken: " + texts[i], x, Texts.load(x, texts[i]), stations[i], 0);
            Check.same("p05 no fault: " + texts[i], x.fault(0), 0);
            Check.same("p05 no place: " + texts[i], x.fault(1), -1);
        }
        RankedRing x = Texts.ring("station abcdefgh 0099;");
        Check.same("p04 a number with zeros ahead", x.station(0, 0), 99);
        x = Texts.ring(EIGHT + "monitor a;monitor b;");
        Check.same("p04 the monitor from then on", x.many(2), 1);
    }

    private static void fault(String text, int kind, int place) {
        RankedRing x = new RankedRing();
        Check.refused("p05 load: " + text, x, Texts.load(x, text), 9);
        Check.same("p05 kind: " + text, x.fault(0), kind);
        Check.same("p05 place: " + text, x.fault(1), place);
    }

    private static void faultKinds() {
        fault("A", 1, 0);
        fault("station a\r5;", 1, 9);
        fault("station a 10000;", 1, 10);
        fault("station a 100;", 4, 10);
        fault("station a 99999999999999;", 1, 10);
        fault(";", 2, 0);
        fault("5", 2, 0);
        fault("ring a 5;", 2, 0);
        fault("station", 2, 7);
        fault("station \n", 2, 9);
        fault("station 5;", 2, 8);
        fault("station abcdefghi 5;", 2, 8);
        fault("station off 5;", 2, 8);
        fault("station station 5;", 2, 8);
        fault("station monitor 5;", 2, 8);
        fault("station send 5;", 2, 8);
        fault("station break 5;", 2, 8);
        fault("station a b;", 2, 10);
        fault("station a 5", 2, 11);
        fault("station a 5 6;", 2, 12);
        fault("station a 5;;", 2, 12);
        fault("ztation a 5;", 2, 0);
        fault("statiom a 5;", 2, 0);
        fault("stations a 5;", 2, 0);
        fault("of a;", 2, 0);
        fault("station a 5;off send;", 2, 16);
        fault("station a 5;station a 6;", 3, 20);
        fault("off a;", 3, 4);
        fault("monitor a;", 3, 8);
        fault("send a b 1;", 3, 5);
        fault("station a 5;send a b 1;", 3, 19);
        fault("break a 1;", 3, 6);
        fault("station a 5;monitor aa;", 3, 20);
        fault("station ab 5;monitor a;", 3, 21);
        fault("station a 5;station b 5;", 4, 22);
        fault(THREE + "send a b 8;", 4, 45);
        fault(THREE + "break a 3;", 4, 44);
        fault(THREE + "off a;off a;", 5, 46);
        fault(THREE + "send a a 1;", 5, 43);
        fault(EIGHT + "station i 9;", 6, 96);
        fault(EIGHT + "station", 6, 96);
        fault(THREE + "break a 0;break b 1;", 6, 46);
        fault(THREE + SIX_SENDS + "send a b 1;", 6, 107);
    }

    private static void faultOrder() {
        // The first along the text, even if a later one is of a lesser kind.
        fault("station a 5;off b;A", 3, 16);
        fault("station a 100 A", 4, 10);
        fault(THREE + SIX_SENDS + "send a A", 6, 107);
        fault(THREE + SIX_SENDS + "send d b 1;", 3, 107);
        fault(THREE + "break a 0;break A", 6, 46);
        fault(EIGHT + "station A", 6, 96);
        fault("station 10000", 1, 8);
    }

    private static void fault() {
        RankedRing x = new RankedRing();
        Check.same("p05 ahead of any, kind", x.fault(0), -1);
        Check.same("p05 ahead of any, place", x.fault(1), -1);
        x.load(1);
        Check.same("p05 status 1 does not count", x.fault(0), -1);
        Texts.load(x, "station a");
        Check.same("p05 kind", x.fault(0), 2);
        Check.same("p05 place", x.fault(1), 9);
        x.load(-1);
        Check.same("p05 the latest but for those", x.fault(1), 9);
        int[] others = {-1, 2, 3, Integer.MIN_VALUE, Integer.MAX_VALUE};
        for (int what : others) {
            Check.same("p05 fault " + what, x.fault(what), -1);
        }
        Texts.load(x, THREE);
        Check.same("p05 none, kind", x.fault(0), 0);
        Check.same("p05 none, place", x.fault(1), -1);
    }
}

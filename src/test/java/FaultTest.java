/** Promises 4 and 5: what may stand where in a text, token by token. */
public final class FaultTest {
    private static final String THREE = "station a 5;station b 9;station c 7;";
    private static final String[][] LINES = {
        {"station", "d", "0", ";"}, {"off", "a", ";"}, {"monitor", "b", ";"}, {"send", "a", "b", "7", ";"},
        {"break", "c", "2", ";"}};
    /** For each token: L the word of a line, N a new NAME, O an old one, a digit how great a NUMBER may be, S the SIGN. */
    private static final String[] KINDS = {"LN9S", "LOS", "LOS", "LOO7S", "LO2S"};

    public static void main(String[] args) {
        wrongTokens();
        everySign();
        blanks();
        numbers();
        names();
        leastKind();
        firstAlong();
        oneMore();
        resets();
        nothingOfIt();
        Check.end("FaultTest");
    }

    private static void fault(String text, int kind, int place) {
        RankedRing x = new RankedRing();
        Check.refused("p05 load: " + text, x, Texts.load(x, text), 9);
        Check.same("p05 kind: " + text, x.fault(0), kind);
        Check.same("p05 place: " + text, x.fault(1), place);
    }

    private static RankedRing taken(String text, int stations) {
        RankedRing x = new RankedRing();
        Check.same("p04 load: " + text, x, Texts.load(x, text), stations, 0);
        Check.same("p05 no fault: " + text, x.fault(0), 0);
        Check.same("p05 no place: " + text, x.fault(1), -1);
        return x;
    }

    private static void wrongTokens() {
        for (int line = 0; line < LINES.length; line++) {
            StringBuilder ahead = new StringBuilder(THREE);
            for (int i = 0; i < LINES[line].length; i++) {
                wrongAt(ahead.toString(), KINDS[line].charAt(i));
                ahead.append(LINES[line][i]).append(i % 2 == 0 ? " " : "\n");
                if (i + 1 < LINES[line].length) {
                    fault(ahead.toString(), 2, ahead.length());
                }
            }
            taken(ahead.toString(), line == 0 ? 4 : 3);
        }
    }

    private static void wrong(String ahead, int kind, String... tokens) {
        for (String token : tokens) {
            fault(ahead + token, kind, ahead.length());
            fault(ahead + token + " ;", kind, ahead.length());
            fault(ahead + token + " $", kind, ahead.length());
        }
    }

    private static void wrongAt(String ahead, char due) {
        wrong(ahead, 1, "$", "A", "-1", "12345", "00000", "99999999999", "\u00e1", "\0", "\t");
        if (due != 'S') {
            wrong(ahead, 2, ";");
        }
        if (due == 'L' || due == 'N' || due == 'O' || due == 'S') {
            wrong(ahead, 2, "5", "0000");
        }
        if (due != 'L') {
            wrong(ahead, 2, "station", "off", "monitor", "send", "break", "abcdefghi");
        }
        if (due == 'L') {
            wrong(ahead, 2, "a", "d", "stations", "statio", "offf", "of", "monito", "sendx", "brea", "stationstation");
        }
        if (due == 'N') {
            wrong(ahead, 3, "a", "b", "c");
        }
        if (due == 'O') {
            wrong(ahead, 3, "d", "aa", "abcdefgh");
        }
        if (due >= '0' && due <= '9' || due == 'S') {
            wrong(ahead, 2, "a", "z");
        }
        if (due >= '0' && due <= '9') {
            wrong(ahead, 4, due == '9' ? "100" : String.valueOf(due - '0' + 1), "9999", due == '9' ? "0100" : "0010");
        }
    }

    private static void everySign() {
        for (int sign = 0; sign <= 255; sign++) {
            String text = THREE + (char) sign;
            boolean known = sign >= 'a' && sign <= 'z' || sign >= '0' && sign <= '9' || sign == ';';
            if (sign == 10 || sign == 32) {
                taken(text, 3);
            } else {
                fault(text, known ? 2 : 1, 36);
            }
        }
    }

    private static void blanks() {
        taken("station a5;off a;", 1);
        taken("\n \n station \n\n a  5 \n; \n", 1);
        taken("station a 5;station b9;send a b7;send b a0;break a2;monitor a;", 2);
        fault("stationa 5;", 2, 0);
        fault("station a 5b;", 2, 11);
        fault("station a b5;", 2, 10);
        fault("station 5a;", 2, 8);
        fault("station a 5 5;", 2, 12);
        fault("station a 1 0;", 2, 12);
        fault("station a 5;offa;", 2, 12);
        fault("sta tion a 5;", 2, 0);
        fault("station a 5\n", 2, 12);
        fault("station a 5;off  ", 2, 17);
    }

    private static void numbers() {
        for (String zero : new String[] {"0", "00", "000", "0000"}) {
            Check.same("p05 " + zero + " is 0", taken("station a " + zero + ";", 1).station(0, 0), 0);
        }
        Check.same("p05 0099 is 99", taken("station a 0099;", 1).station(0, 0), 99);
        fault("station a 0100;", 4, 10);
        fault("station a 0;station b 0000;", 4, 22);
        fault("station a 9;station b 1;station c 09;", 4, 34);
        fault(THREE + "off a;station d 5;", 4, 52);
        for (int rank = 0; rank <= 7; rank++) {
            Check.same("p05 rank " + rank, taken(THREE + "send c a " + rank + ";", 3).waits(2, 0, 2), rank);
        }
        for (int cause = 0; cause <= 2; cause++) {
            RankedRing x = taken(THREE + "break b " + cause + ";", 3);
            Check.same("p05 cause " + cause, x.many(9) * 10 + x.many(10), 10 + cause);
        }
    }

    private static void names() {
        taken("station abcdefgh 1;station abcdefgi 2;station bbcdefgh 3;monitor abcdefgh;", 3);
        fault("station abcdefghi 1;", 2, 8);
        fault("station abcdefgh 1;monitor abcdefghi;", 2, 27);
        RankedRing x = taken("station ab 1;station a 2;station abc 3;monitor a;off abc;send ab a 4;", 3);
        Check.same("p05 each by its own name", x.many(2) * 100 + x.many(1) * 10 + x.waits(0, 0, 1), 131);
        taken("station stat 1;station offs 2;station o 3;station breaks 4;station sen 5;monitor offs;", 5);
        fault("off b;station b 1;", 3, 4);
        fault("station a 1;send a b 1;station b 2;", 3, 19);
        fault("station a 1;send b a 1;station b 2;", 3, 17);
        fault("monitor b;", 3, 8);
        fault("break b 0;station b 1;", 3, 6);
        x = taken(THREE + "off a;off b;off c;send a b 1;monitor c;monitor a;monitor a;", 3);
        Check.same("p04 the monitor from then on", x.many(2), 0);
        Check.same("p04 it waits where it is off", x.station(0, 2), 1);
        Check.same("p04 told behind it", taken("station a 1;monitor a;station b 2;off a;", 2).many(1), 2);
    }

    /** Of one token the least kind. */
    private static void leastKind() {
        fault("station a 100000;", 1, 10);
        fault("station a 5;station a 00005;", 3, 20);
        fault("station a 5;station b 00005;", 1, 22);
        fault("station a 5;monitor abcdefghi;", 2, 20);
        fault("station a 5;station station 6;", 2, 20);
        fault("send off off 9;", 2, 5);
    }

    private static void firstAlong() {
        fault(THREE + "send a a 8;", 5, 43);
        fault(THREE + "send a d 8;", 3, 43);
        fault(THREE + "send d d 8;", 3, 41);
        fault(THREE + "break d 3;", 3, 42);
        fault(THREE + "station a 5;", 3, 44);
        fault(THREE + "off a;off a $", 5, 46);
        fault(THREE + "off a;off a", 5, 46);
        fault("station a 100", 4, 10);
        fault("station a 5;station b 5", 4, 22);
        fault("station a 5;; $", 2, 12);
    }

    private static void oneMore() {
        StringBuilder eight = new StringBuilder();
        for (char name = 'a'; name <= 'h'; name++) {
            eight.append("station ").append(name).append(' ').append((int) name - 'a').append(';');
        }
        taken(eight.toString(), 8);
        fault(eight + "station i 9;", 6, 96);
        fault(eight + "station a 0;", 6, 96);
        fault(eight + " station", 6, 97);
        fault(eight + "stations", 2, 96);
        fault(THREE + "break a 0;break b 1;", 6, 46);
        fault(THREE + "break a 0;break a 0;", 6, 46);
        fault(THREE + "break a 0;break d 9;", 6, 46);
        fault(THREE + "off a;break a 0;break", 6, 52);
        String six = THREE + "send b a 0;send b a 0;send b a 0;send b a 0;send b a 0;send b a 0;";
        Check.same("p05 six of one", taken(six, 3).station(1, 2), 6);
        Check.same("p05 and one of another", taken(six + "send a b 0;", 3).many(3), 7);
        fault(six + "send b a 0;", 6, 107);
        fault(six + "send b b 0;", 6, 107);
        fault(six + "send b d 8;", 6, 107);
        fault(six + "send b", 6, 107);
        fault(six + "send a a 0;", 5, 109);
    }

    /** What a text ahead of it had, or what was asked on paper ahead of it, is in no ring that is taken. */
    private static void resets() {
        String busy = THREE + "monitor c;send a b 3;send a c 7;send b a 2;";
        RankedRing x = taken(busy + "break a 2;off c;", 3);
        Check.same("p04 three more", x, Texts.load(x, THREE), 3, 0);
        Look.same("p04 nothing of it is left", x, taken(THREE, 3));
        x = taken(busy, 3);
        x.tick(16);
        x.notice();
        Check.same("p04 raises stood", x.station(0, 4) + x.station(1, 4) > 0, true);
        x.quiet(false);
        x.healed();
        Check.same("p04 three again", x, Texts.load(x, THREE + "send c a 1;"), 3, 0);
        Look.sameThrough("p04 nor of its ticks", x, taken(THREE + "send c a 1;", 3));
        x = taken(busy + "break a 0;", 3);
        x.tick(5);
        x.many(0);
        Check.same("p04 none", x, Texts.load(x, " "), 0, 0);
        Look.sameThrough("p04 a new one is empty", x, taken(" ", 0));
    }

    private static RankedRing old() {
        RankedRing x = taken(THREE + "monitor c;send a b 3;send a c 7;send b a 2;", 3);
        x.tick(11);
        x.notice();
        x.mark();
        return x;
    }

    /** With a fault at its very end a text changes nothing but the tape and what fault() tells. */
    private static void nothingOfIt() {
        String text = "station d 1;station e 2;station f 3;monitor d;send d e 1;off f;break e 2;";
        RankedRing x = old();
        RankedRing y = old();
        Texts.load(x, text + "A");
        Texts.load(y, " ".repeat(text.length()) + "A");
        Check.same("p05 at its end", x.fault(1), text.length());
        Look.same("p04 the old one stays", x, y);
        Check.same("p04 the tape is empty", x.feed(0, 0, 0, 0, 0), 20);
        y.feed(0, 0, 0, 0, 0);
        Check.same("p04 marks stay", x, x.back(), 0, 0);
        y.back();
        Look.sameThrough("p04 the old one goes on", x, y);
    }
}

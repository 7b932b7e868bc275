/** Puts texts on the tape of a ring. */
final class Texts {
    private Texts() {
    }

    /** Feeds a text, filled up with zeros to whole feeds. */
    static void feed(RankedRing x, String text) {
        for (int at = 0; at < text.length(); at += 20) {
            int[] words = new int[5];
            for (int i = 0; i < 20; i++) {
                int sign = at + i < text.length() ? text.charAt(at + i) & 255 : 0;
                words[i / 4] = words[i / 4] << 8 | sign;
            }
            x.feed(words[0], words[1], words[2], words[3], words[4]);
        }
    }

    static int load(RankedRing x, String text) {
        feed(x, text);
        return x.load(text.length());
    }

    static RankedRing ring(String text) {
        RankedRing x = new RankedRing();
        int stations = load(x, text);
        if (x.status() != 0) {
            throw new IllegalStateException("text of a test at fault: " + text + " " + stations);
        }
        return x;
    }
}

import java.util.ArrayList;
import java.util.List;

/** All that can be seen of a ring, to compare two of them. */
final class Look {
    private final RankedRing x;
    private final List<String> names = new ArrayList<>();
    private final List<Integer> answers = new ArrayList<>();

    private Look(RankedRing x) {
        this.x = x;
        stations();
        rest();
    }

    private void see(String name, int answer) {
        names.add(name);
        answers.add(answer);
    }

    private void stations() {
        int stations = x.many(0);
        for (int s = 0; s < stations; s++) {
            for (int what = 0; what <= 9; what++) {
                see("station " + s + " " + what, x.station(s, what));
            }
            for (int i = 0; i < x.station(s, 2); i++) {
                for (int what = 0; what <= 2; what++) {
                    see("waits " + s + " " + i + " " + what, x.waits(s, i, what));
                }
            }
            for (int i = 0; i < x.station(s, 4); i++) {
                see("raise " + s + " " + i + " old", x.raise(s, i, 0));
                see("raise " + s + " " + i + " new", x.raise(s, i, 1));
            }
        }
    }

    private void rest() {
        for (int what = 0; what <= 10; what++) {
            see("many " + what, x.many(what));
        }
        for (int what = 0; what <= 9; what++) {
            see("way " + what, x.way(what));
            see("been " + what, x.been(what));
        }
        for (int i = 0; i < 24 && x.event(i, 0) >= 0; i++) {
            see("event " + i, x.event(i, 0) + 10 * x.event(i, 2) + 100 * x.event(i, 1));
        }
        for (int i = 0; i < 16 && x.got(i, 0) >= 0; i++) {
            for (int what = 0; what <= 5; what++) {
                see("got " + i + " " + what, x.got(i, what));
            }
        }
        for (int rank = 0; rank <= 7; rank++) {
            see("ranks " + rank, x.ranks(rank, 0) + 100 * x.ranks(rank, 1) + 100_000 * x.ranks(rank, 2));
        }
        for (int what = 0; what <= 2; what++) {
            see("beacon " + what, x.beacon(what));
        }
        see("stale", x.stale());
        see("fault", x.fault(0));
        see("its place", x.fault(1));
    }

    /** One by one what is seen of both has to be the same. */
    static void same(String what, RankedRing x, RankedRing y) {
        Look there = new Look(x);
        Look due = new Look(y);
        Check.same(what + ": how much is seen", there.names.equals(due.names), true);
        for (int i = 0; i < Math.min(there.answers.size(), due.answers.size()); i++) {
            Check.same(what + ": " + due.names.get(i), there.answers.get(i), due.answers.get(i));
        }
    }

    /** The same, and what cannot be seen: the tape's length, and all that comes of it. Both are changed by that. */
    static void sameThrough(String what, RankedRing x, RankedRing y) {
        same(what, x, y);
        Check.same(what + ": the tape", x.feed(0, 0, 0, 0, 0), y.feed(0, 0, 0, 0, 0));
        x.run(60, 77, 9);
        y.run(60, 77, 9);
        for (int what2 = 0; what2 <= 9; what2++) {
            Check.same(what + ": later, been " + what2, x.been(what2), y.been(what2));
            Check.same(what + ": later, way " + what2, x.way(what2), y.way(what2));
        }
    }
}

import java.util.LinkedHashMap;
import java.util.Map;
import java.util.Set;
import java.util.StringJoiner;
import java.util.TreeSet;

/** All that can be seen of a ring, to compare two of them, or one with what it was. */
final class Look {
    private final RankedRing x;
    private final Map<String, Integer> answers = new LinkedHashMap<>();

    Look(RankedRing x) {
        this.x = x;
        stations();
        rest();
    }

    private void see(String name, int answer) {
        answers.put(name, answer);
    }

    /** What is another answer later, or is there at one of the two times alone (_ at the other one). */
    String changesTo(Look later) {
        Set<String> names = new TreeSet<>(answers.keySet());
        names.addAll(later.answers.keySet());
        StringJoiner changes = new StringJoiner(", ");
        for (String name : names) {
            Integer was = answers.get(name);
            Integer is = later.answers.get(name);
            if (was == null || !was.equals(is)) {
                changes.add(name + ": " + (was == null ? "_" : was) + " " + (is == null ? "_" : is));
            }
        }
        return changes.toString();
    }

    private void stations() {
        int stations = x.many(0);
        for (int s = 0; s < stations; s++) {
            for (int what = 0; what <= 9; what++) {
                see("station " + s + " " + what, x.station(s, what));
            }
            for (int i = 0; i < x.station(s, 2); i++) {
                for (int what = 0; what <= 2; what++) {
                    see("waits " + s + " " + i + " " + what, x.waits(s, i, what));
                }
            }
            for (int i = 0; i < x.station(s, 4); i++) {
                see("raise " + s + " " + i + " old", x.raise(s, i, 0));
                see("raise " + s + " " + i + " new", x.raise(s, i, 1));
            }
        }
    }

    private void rest() {
        for (int what = 0; what <= 10; what++) {
            see("many " + what, x.many(what));
        }
        for (int what = 0; what <= 9; what++) {
            see("way " + what, x.way(what));
            see("been " + what, x.been(what));
        }
        for (int i = 0; i < 24 && x.event(i, 0) >= 0; i++) {
            see("event " + i, x.event(i, 0) + 10 * x.event(i, 2) + 100 * x.event(i, 1));
        }
        for (int i = 0; i < 16 && x.got(i, 0) >= 0; i++) {
            for (int what = 0; what <= 5; what++) {
                see("got " + i + " " + what, x.got(i, what));
            }
        }
        for (int rank = 0; rank <= 7; rank++) {
            see("ranks " + rank, x.ranks(rank, 0) + 100 * x.ranks(rank, 1) + 100_000 * x.ranks(rank, 2));
        }
        for (int what = 0; what <= 2; what++) {
            see("beacon " + what, x.beacon(what));
        }
        see("stale", x.stale());
        see("fault", x.fault(0));
        see("its place", x.fault(1));
    }

    static void same(String what, RankedRing x, RankedRing y) {
        Check.same(what + ": what is seen of it, and not of that which is due", new Look(x).changesTo(new Look(y)), "");
    }

    /** The same, and what cannot be seen: the tape's length, and all that comes of it. Both are changed by that. */
    static void sameThrough(String what, RankedRing x, RankedRing y) {
        same(what, x, y);
        Check.same(what + ": the tape", x.feed(0, 0, 0, 0, 0), y.feed(0, 0, 0, 0, 0));
        x.run(60, 77, 9);
        y.run(60, 77, 9);
        for (int i = 0; i <= 9; i++) {
            Check.same(what + ": later, been " + i, x.been(i), y.been(i));
            Check.same(what + ": later, way " + i, x.way(i), y.way(i));
        }
    }
}

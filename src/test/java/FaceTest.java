import java.lang.management.ManagementFactory;
import java.lang.reflect.Constructor;
import java.lang.reflect.Field;
import java.lang.reflect.Method;
import java.lang.reflect.Modifier;
import java.util.Set;
import java.util.TreeSet;

/** The face of the class, and the room that its calls take. */
public final class FaceTest {
    private static final String[] FACE = {
        "status()I", "feed(IIIII)I", "load(I)I", "fault(I)I", "many(I)I", "station(II)I", "waits(III)I", "way(I)I",
        "beacon(I)I", "been(I)I", "got(II)I", "raise(III)I", "event(II)I", "ranks(II)I", "hops(II)I", "heir()I",
        "add(I)I", "send(III)I", "take(I)I", "shed(II)I", "off(I)Z", "on(I)Z", "monitor(I)Z", "lose()Z",
        "snap(II)Z", "mend()Z", "tick(I)I", "run(III)I", "notice()I", "stale()I", "mark()I", "back()I",
        "quiet(Z)I", "when(IZ)I", "next(IZ)I", "peak()I", "lowered()I", "healed()I", "purged()I", "blamed()I",
        "gain()I"};

    public static void main(String[] args) {
        face();
        room();
        Check.end("FaceTest");
    }

    private static String letter(Class<?> type) {
        return type == int.class ? "I" : type == boolean.class ? "Z" : type.getName();
    }

    private static void face() {
        Set<String> names = new TreeSet<>();
        Set<String> there = new TreeSet<>();
        Set<String> hidden = new TreeSet<>();
        for (Method m : RankedRing.class.getDeclaredMethods()) {
            if (Modifier.isPrivate(m.getModifiers()) || m.isSynthetic()) {
                hidden.add(m.getName());
                continue;
            }
            StringBuilder sign = new StringBuilder(m.getName()).append("(");
            for (Class<?> p : m.getParameterTypes()) {
                sign.append(letter(p));
            }
            there.add(sign.append(")").append(letter(m.getReturnType())).toString());
            names.add(m.getName());
            Check.same("public: " + sign, Modifier.isPublic(m.getModifiers()) && !Modifier.isStatic(m.getModifiers()), true);
        }
        Check.same("the face: " + there, there.equals(Set.of(FACE)), true);
        hidden.retainAll(names);
        Check.same("private ones with a name of the face: " + hidden, hidden.isEmpty(), true);
        Check.same("the class", Modifier.isFinal(RankedRing.class.getModifiers()), true);
        Constructor<?>[] makers = RankedRing.class.getDeclaredConstructors();
        Check.same("one constructor", makers.length * 10 + makers[0].getParameterCount(), 10);
        for (Field f : RankedRing.class.getDeclaredFields()) {
            Check.same("private: " + f.getName(), !Modifier.isPrivate(f.getModifiers()), f.getName().equals("NONE"));
        }
        for (Class<?> c : RankedRing.class.getDeclaredClasses()) {
            int fields = 0;
            for (Field f : c.getDeclaredFields()) {
                fields += Modifier.isStatic(f.getModifiers()) ? 0 : 1;
            }
            Check.same("some twenty fields: " + c.getName(), fields <= 20, true);
            Check.same("static: " + c.getName(), Modifier.isStatic(c.getModifiers()), true);
            for (Method m : c.getDeclaredMethods()) {
                Check.same("no name of the face: " + m, names.contains(m.getName()), false);
            }
        }
        Check.same("some twelve classes", RankedRing.class.getDeclaredClasses().length < 12, true);
    }

    /** Ticks, questions and marks make no objects at all: rows are made once, in the constructor. */
    private static void room() {
        com.sun.management.ThreadMXBean threads = (com.sun.management.ThreadMXBean) ManagementFactory.getThreadMXBean();
        long id = Thread.currentThread().getId();
        long[] taken = new long[2];
        for (int i = 0; i < 2; i++) {
            RankedRing x = Texts.ring("station a 5;station b 9;station c 7;monitor a;");
            x.run(50, 5, 16);
            long ahead = threads.getThreadAllocatedBytes(id);
            calls(x);
            taken[i] = threads.getThreadAllocatedBytes(id) - ahead;
        }
        Check.same("the calls make no objects, but took " + taken[1] + " bytes", taken[1] < 5000, true);
    }

    private static void calls(RankedRing x) {
        for (int i = 0; i < 50; i++) {
            x.gain();
            x.quiet(true);
            x.when(i, false);
            x.next(i, false);
            x.mark();
            x.run(20, i, 16);
            x.back();
            x.peak();
            x.purged();
            x.feed(0x6f666620, 0, 0, 0, 0);
            x.load(4);
            x.notice();
        }
    }
}

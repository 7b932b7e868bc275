/** RUN of section 4 and promise 29: its draws, told once more, in a ring where nothing ever comes on its way. */
public final class DrawTest {
    private static final int[] SEEDS = {0, 1, 2, 17, 4711, 9998, 9999};
    private static final int[] LOADS = {0, 1, 8, 15, 16};

    private final int stations;
    private final int offBits;
    private final int[][] to = new int[8][6];
    private final int[][] rank = new int[8][6];
    private final int[] waiting = new int[8];
    private int frames = 0;
    private int refused = 0;
    private long s = 0;

    private DrawTest(int stations, int offBits) {
        this.stations = stations;
        this.offBits = offBits;
    }

    public static void main(String[] args) {
        for (int stations = 1; stations <= 8; stations++) {
            for (int seed : SEEDS) {
                for (int load : LOADS) {
                    new DrawTest(stations, 0).same(seed, load);
                    new DrawTest(stations, 1 << stations / 2).same(seed, load);
                }
            }
        }
        eachSeedAnew();
        tickByTick();
        withoutStations();
        Check.end("DrawTest");
    }

    private RankedRing broken() {
        RankedRing x = new RankedRing();
        for (int i = 0; i < stations; i++) {
            x.add(i);
            if ((offBits >> i & 1) == 1) {
                x.off(i);
            }
        }
        x.snap(0, 2);
        return x;
    }

    private int draw(int by) {
        s = (s * 3877 + 29573) % 139968;
        return (int) (s * by / 139968);
    }

    private void plan(int ticks, int seed, int load) {
        s = seed;
        for (int i = 0; i < ticks; i++) {
            if (draw(16) >= load) {
                continue;
            }
            int from = draw(stations);
            int goal = draw(stations);
            int itsRank = draw(8);
            if ((offBits >> from & 1) == 1 || from == goal || waiting[from] == 6) {
                refused++;
                continue;
            }
            to[from][waiting[from]] = goal;
            rank[from][waiting[from]] = itsRank;
            waiting[from]++;
            frames++;
        }
    }

    private void compare(String what, RankedRing x) {
        Check.same(what + ": frames", x.many(4), frames);
        Check.same(what + ": refused", x.been(7), refused);
        for (int station = 0; station < stations; station++) {
            Check.same(what + ": how many at " + station, x.station(station, 2), waiting[station]);
            for (int i = 0; i < waiting[station]; i++) {
                Check.same(what + ": to, " + station + " " + i, x.waits(station, i, 1), to[station][i]);
                Check.same(what + ": rank, " + station + " " + i, x.waits(station, i, 2), rank[station][i]);
            }
        }
    }

    private void same(int seed, int load) {
        String what = "p29 seed " + seed + ", load " + load + ", " + stations + " stations, off " + offBits;
        RankedRing x = broken();
        Check.same(what, x, x.run(20, seed, load), 0, 0);
        plan(20, seed, load);
        compare(what, x);
        x.run(400, seed + 1 > 9999 ? 0 : seed + 1, load);
        plan(400, seed + 1 > 9999 ? 0 : seed + 1, load);
        compare(what + ", and more", x);
        Check.same(what + ": the tick", x.many(5), 420);
    }

    /** At first s is the seed, whatever was drawn ahead. */
    private static void eachSeedAnew() {
        DrawTest once = new DrawTest(4, 0);
        RankedRing x = once.broken();
        for (int i = 0; i < 5; i++) {
            x.run(3, 17, 9);
            once.plan(3, 17, 9);
        }
        once.compare("p29 each seed anew", x);
    }

    /** Ahead of each tick: what is drawn ahead of a tick can be taken in it, and is of the tick ahead. */
    private static void tickByTick() {
        for (int seed = 0; seed < 200; seed++) {
            DrawTest plan = new DrawTest(2, 0);
            plan.plan(1, seed, 16);
            RankedRing x = Texts.ring("station a 5;station b 9;monitor a;");
            x.tick(3);
            int got = x.run(1, seed, 16);
            Check.same("p29 none is got at once", x, got, 0, 0);
            Check.same("p29 it waits at b, and is taken", x.way(0), plan.waiting[1] == 1 ? 2 : 1);
            if (plan.waiting[1] == 1) {
                Check.way("p29 at b", x, 2, 1, 0, 0, 0, 1, 0, plan.rank[1][0], 0, 0);
                Check.same("p29 got in a run", x, x.run(2, 0, 0), 1, 0);
                Check.same("p29 it came ahead of tick 4", x.got(0, 4) * 10 + x.got(0, 5), 63);
            } else {
                Check.same("p29 it waits at a, or is refused", x.many(3) * 10 + x.been(7), plan.frames * 10 + plan.refused);
            }
        }
    }

    private static void withoutStations() {
        for (int load : LOADS) {
            RankedRing x = new RankedRing();
            Check.same("p29 without stations, load " + load, x, x.run(500, 9999, load), 0, 0);
            Check.same("p29 none came, none is refused", x.many(4) * 10 + x.been(7), 0);
            Check.same("p29 the ticks go by", x.many(5) * 1000 + x.many(6), 500_500);
        }
    }
}

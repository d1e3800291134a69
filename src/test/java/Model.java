import java.util.ArrayList;
import java.util.Comparator;
import java.util.List;
import java.util.TreeMap;

/** The document once more, written in another way: rollers and runners are objects, the future is a copy. */
final class Model {
    static final class Roller {
        Integer place;
    }

    static final class Runner {
        Roller load;
        int left;
    }

    static final class Team {
        int number;
        int length;
        int weight;
        int pullers = 4;
        int strength = 10;
        int runnerCount = 1;
        int toldRope = 200;
        int effort = 5;
        int gap = 10;
        int front;
        int breath;
        int rope;
        int knots;
        int broken;
        int lastWay;
        Integer end;
        List<Roller> rollers = new ArrayList<>();
        List<Runner> runners = new ArrayList<>();

        int back() {
            return front - length;
        }

        long lying(int side) {
            return rollers.stream().filter(r -> side(r) == side).count();
        }

        int side(Roller r) {
            if (r.place == null) {
                return 7;
            }
            if (r.place >= back() && r.place <= front) {
                return 4;
            }
            return r.place < back() ? 5 : 6;
        }
    }

    private final TreeMap<Integer, int[]> ground = new TreeMap<>();
    private final List<Team> teams = new ArrayList<>();
    private int trackLength = 500;
    private int tick = 0;

    Model() {
        ground.put(0, new int[] {0, 2});
    }

    private Model copy() {
        Model m = new Model();
        m.ground.clear();
        m.ground.putAll(ground);
        m.trackLength = trackLength;
        m.tick = tick;
        for (Team t : teams) {
            m.teams.add(copy(t));
        }
        return m;
    }

    private static Team copy(Team t) {
        Team c = new Team();
        c.number = t.number;
        c.length = t.length;
        c.weight = t.weight;
        c.pullers = t.pullers;
        c.strength = t.strength;
        c.runnerCount = t.runnerCount;
        c.toldRope = t.toldRope;
        c.effort = t.effort;
        c.gap = t.gap;
        c.front = t.front;
        c.breath = t.breath;
        c.rope = t.rope;
        c.knots = t.knots;
        c.broken = t.broken;
        c.lastWay = t.lastWay;
        c.end = t.end;
        for (Roller r : t.rollers) {
            Roller n = new Roller();
            n.place = r.place;
            c.rollers.add(n);
        }
        for (Runner r : t.runners) {
            Runner n = new Runner();
            n.left = r.left;
            n.load = r.load == null ? null : c.rollers.get(t.rollers.indexOf(r.load));
            c.runners.add(n);
        }
        return c;
    }

    private static void arguments(boolean isFine) {
        if (!isFine) {
            throw new IllegalArgumentException();
        }
    }

    private static void state(boolean isFine) {
        if (!isFine) {
            throw new IllegalStateException();
        }
    }

    private static void index(boolean isFine) {
        if (!isFine) {
            throw new IndexOutOfBoundsException();
        }
    }

    private Team at(int team) {
        index(team >= 0 && team < teams.size());
        return teams.get(team);
    }

    private static boolean in(int least, int x, int most) {
        return least <= x && x <= most;
    }

    int setLength(int length) {
        arguments(in(100, length, 2000));
        state(tick == 0);
        int old = trackLength;
        trackLength = length;
        return old;
    }

    int lay(int from, int slope, int softness) {
        arguments(in(0, from, 1999) && in(-5, slope, 5) && in(0, softness, 9));
        state(ground.containsKey(from) || ground.size() < 12);
        ground.put(from, new int[] {slope, softness});
        return ground.size();
    }

    private int groundAt(int place, int which) {
        return (place < 0 ? ground.firstEntry() : ground.floorEntry(place)).getValue()[which];
    }

    int ground(int place, boolean isSoft) {
        arguments(in(-100, place, 3000));
        return groundAt(place, isSoft ? 1 : 0);
    }

    int addTeam(int length, int weight, int rollers) {
        arguments(in(20, length, 80) && in(10, weight, 99) && in(2, rollers, 8));
        state(teams.size() < 6 && tick == 0);
        Team t = new Team();
        t.number = teams.size();
        t.length = length;
        t.weight = weight;
        for (int k = 0; k < rollers; k++) {
            t.rollers.add(new Roller());
        }
        begin(t);
        teams.add(t);
        return t.number;
    }

    private static void begin(Team t) {
        t.front = 0;
        t.breath = 1000;
        t.rope = t.toldRope;
        t.knots = 0;
        t.broken = 0;
        t.lastWay = 0;
        t.end = null;
        int n = t.rollers.size();
        for (int k = 0; k < n; k++) {
            t.rollers.get(k).place = -((k + 1) * t.length / (n + 1));
        }
        t.runners.clear();
        for (int r = 0; r < t.runnerCount; r++) {
            t.runners.add(new Runner());
        }
    }

    int setCrew(int team, int pullers, int strength, int runners, int rope) {
        Team t = at(team);
        arguments(in(1, pullers, 9) && in(1, strength, 20) && in(1, runners, 3) && in(20, rope, 400));
        state(tick == 0);
        int old = t.pullers;
        t.pullers = pullers;
        t.strength = strength;
        t.runnerCount = runners;
        t.toldRope = rope;
        begin(t);
        return old;
    }

    int order(int team, int effort, int gap) {
        Team t = at(team);
        arguments(in(0, effort, 10) && in(1, gap, 40));
        int old = t.effort;
        t.effort = effort;
        t.gap = gap;
        return old;
    }

    int run(int ticks) {
        arguments(in(1, ticks, 500));
        state(!teams.isEmpty());
        for (int i = 0; i < ticks; i++) {
            tick++;
            teams.forEach(this::step);
        }
        return count(4);
    }

    private static int pull(Team t) {
        return t.pullers * t.strength * t.effort * (500 + t.breath) / 5000;
    }

    private int drag(Team t) {
        int slope = groundAt(t.front, 0);
        int softness = groundAt(t.front, 1);
        int drag = t.weight * (20 + 10 * slope + 4 * softness) / 10;
        if (drag < 0) {
            drag = 0;
        }
        long under = t.lying(4);
        for (int i = 0; i < 4 && i < under; i++) {
            drag -= t.weight * (6 - softness / 2) / 10;
        }
        if (drag < t.weight / 10) {
            drag = t.weight / 10;
        }
        return under >= 2 ? drag : drag + drag;
    }

    private int way(Team t) {
        int way = (pull(t) - drag(t)) * 4 / t.weight;
        return way < 0 ? 0 : way > 12 ? 12 : way;
    }

    private void step(Team t) {
        if (t.end != null) {
            return;
        }
        int effort = t.effort;
        if (t.knots == 0 && pull(t) > t.rope) {
            t.rope -= t.rope / 10;
            if (t.rope < 10) {
                t.rope = 10;
            }
            t.broken++;
            t.knots = 15;
        }
        if (t.knots > 0) {
            t.knots--;
            t.lastWay = 0;
            effort = 0;
        } else {
            int way = way(t);
            t.lastWay = way;
            List<Roller> rolling = t.rollers.stream().filter(r -> t.side(r) == 4).toList();
            t.front += way;
            rolling.forEach(r -> r.place += way / 2);
            t.runners.forEach(r -> serve(t, r));
        }
        t.breath += 18 - effort * effort / 2;
        if (t.breath < 0) {
            t.breath = 0;
        }
        if (t.breath > 1000) {
            t.breath = 1000;
        }
        if (t.front >= trackLength) {
            t.end = tick;
        }
    }

    private static void serve(Team t, Runner runner) {
        int ahead = t.front + t.gap;
        if (runner.load != null) {
            runner.left--;
            if (runner.left == 0) {
                runner.load.place = ahead;
                runner.load = null;
            }
            return;
        }
        t.rollers.stream().filter(r -> t.side(r) == 5)
                .min(Comparator.comparing((Roller r) -> r.place)).ifPresent(r -> {
                    runner.load = r;
                    runner.left = (ahead - r.place) / 12 + 2;
                    r.place = null;
                });
    }

    int restart() {
        tick = 0;
        teams.forEach(Model::begin);
        return teams.size();
    }

    int count(int what) {
        index(in(0, what, 5));
        int ended = (int) teams.stream().filter(t -> t.end != null).count();
        int broken = teams.stream().mapToInt(t -> t.broken).sum();
        return new int[] {tick, teams.size(), trackLength, ground.size(), ended, broken}[what];
    }

    int team(int team, int what) {
        Team t = at(team);
        index(in(0, what, 11));
        return new int[] {t.front, t.breath, t.rope, t.knots, (int) t.lying(4), (int) t.lying(5),
            (int) t.lying(6), (int) t.lying(7), t.end == null ? -1 : t.end, t.effort, t.gap, t.lastWay}[what];
    }

    int roller(int team, int number) {
        Team t = at(team);
        index(in(0, number, t.rollers.size() - 1));
        state(t.rollers.get(number).place != null);
        return t.rollers.get(number).place;
    }

    int next(int team, int what) {
        Team t = at(team);
        index(in(0, what, 2));
        return new int[] {pull(t), drag(t), way(t)}[what];
    }

    private List<Team> byRank() {
        List<Team> sorted = new ArrayList<>(teams);
        sorted.sort(Comparator.comparing((Team t) -> t.end == null ? Integer.MAX_VALUE : t.end)
                .thenComparing(t -> t.end == null ? -t.front : 0)
                .thenComparing(t -> t.number));
        return sorted;
    }

    int ranked(int rank) {
        index(in(0, rank, teams.size() - 1));
        return byRank().get(rank).number;
    }

    int foresee(int team, int ticks, int what) {
        at(team);
        index(in(0, what, 2));
        arguments(in(1, ticks, 400));
        Model then = copy();
        then.run(ticks);
        Team t = then.teams.get(team);
        return new int[] {t.front, then.byRank().indexOf(t), t.breath}[what];
    }

    int advise(int team, int ticks) {
        at(team);
        arguments(in(1, ticks, 200));
        int best = -1;
        int farthest = -1;
        for (int effort = 10; effort >= 0; effort--) {
            Model then = copy();
            then.teams.get(team).effort = effort;
            then.run(ticks);
            if (then.teams.get(team).front >= farthest) {
                farthest = then.teams.get(team).front;
                best = effort;
            }
        }
        return best;
    }

    double mean() {
        return teams.stream().mapToInt(t -> t.front).average().orElse(0);
    }

    long digest() {
        List<Integer> numbers = new ArrayList<>();
        for (int what = 0; what < 6; what++) {
            numbers.add(count(what));
        }
        for (Team t : teams) {
            for (int what = 0; what < 12; what++) {
                numbers.add(team(t.number, what));
            }
            t.rollers.forEach(r -> numbers.add(r.place == null ? -9999 : r.place));
        }
        byRank().forEach(t -> numbers.add(t.number));
        long d = 461;
        for (int x : numbers) {
            d = d * 31 + x;
        }
        return d;
    }
}

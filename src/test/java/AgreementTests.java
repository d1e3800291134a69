/**
 * Promises 8 to 18: what one call tells agrees with what the others tell, however the race stands:
 * at first, knotting, breathless, carrying, ended, up and down, in soft turf, alone and among six.
 */
final class AgreementTests {
    private static final int LENGTH = 0;
    private static final int WEIGHT = 1;
    private static final int ROLLERS = 2;
    private static final int PULLERS = 3;
    private static final int STRENGTH = 4;
    private static final int RUNNERS = 5;
    private static final int ROPE = 6;
    private static final int EFFORT = 7;
    private static final int GAP = 8;
    private static final int CARRIED = -9999;
    private static final int[] LOOKS = {0, 1, 2, 5, 9, 10, 14, 16, 33, 60, 150, 501, 700};

    /** A race as it is prepared: stretches of from, slope, softness; teams of the nine numbers above. */
    private record Plan(String name, int length, int[][] stretches, int[][] teams) {
        SledgeRace after(int ticks) {
            SledgeRace race = new SledgeRace();
            race.setLength(length);
            for (int[] s : stretches) {
                race.lay(s[0], s[1], s[2]);
            }
            for (int[] t : teams) {
                int team = race.addTeam(t[LENGTH], t[WEIGHT], t[ROLLERS]);
                race.setCrew(team, t[PULLERS], t[STRENGTH], t[RUNNERS], t[ROPE]);
                race.order(team, t[EFFORT], t[GAP]);
            }
            run(race, ticks);
            return race;
        }

        int[] groundAt(int place) {
            int[] ground = {0, 0, 2};
            for (int[] s : stretches) {
                if (s[0] <= Math.max(place, 0) && s[0] >= ground[0]) {
                    ground = s;
                }
            }
            return ground;
        }

        int stretchesInAll() {
            return stretches.length + (stretches.length > 0 && stretches[0][0] == 0 ? 0 : 1);
        }
    }

    private static final Plan[] PLANS = {
        new Plan("alone and heavy, on a long track", 2000, new int[][] {{0, 0, 0}},
                new int[][] {{80, 99, 8, 9, 20, 3, 400, 6, 40}}),
        new Plan("alone, unable to pull", 100, new int[][] {{0, 5, 9}},
                new int[][] {{80, 99, 2, 1, 1, 1, 20, 10, 1}}),
        new Plan("alone, down a hard slope", 500, new int[][] {{0, -5, 0}},
                new int[][] {{20, 10, 2, 2, 5, 2, 60, 9, 40}}),
        new Plan("alone, breathless", 2000, new int[][] {},
                new int[][] {{30, 12, 3, 5, 9, 1, 300, 10, 7}}),
        new Plan("six, one of each kind", 300, new int[][] {{60, 1, 5}, {20, -1, 9}, {150, -4, 3}},
                new int[][] {{20, 10, 8, 9, 20, 3, 400, 5, 10}, {40, 30, 4, 4, 10, 1, 59, 5, 1},
                    {80, 99, 2, 9, 20, 2, 20, 10, 40}, {33, 21, 5, 3, 9, 2, 100, 7, 3},
                    {40, 30, 4, 4, 10, 1, 200, 0, 10}, {21, 99, 6, 1, 20, 3, 390, 10, 40}}),
        new Plan("six on twelve stretches", 250,
                new int[][] {{0, 1, 0}, {10, 2, 9}, {25, -5, 9}, {40, 0, 9}, {55, 3, 0}, {70, 0, 0}, {85, -1, 1},
                    {100, 1, 7}, {115, -2, 8}, {130, 2, 3}, {160, -3, 5}, {1999, 5, 9}},
                new int[][] {{30, 20, 5, 9, 12, 2, 300, 7, 6}, {30, 20, 5, 9, 12, 2, 300, 7, 6},
                    {25, 15, 7, 9, 20, 1, 350, 6, 25}, {50, 40, 8, 8, 16, 3, 250, 8, 12},
                    {80, 60, 3, 9, 20, 2, 170, 6, 1}, {20, 11, 2, 7, 13, 1, 210, 9, 40}}),
        new Plan("six alike", 100, new int[][] {},
                new int[][] {{20, 10, 8, 9, 20, 3, 400, 5, 10}, {20, 10, 8, 9, 20, 3, 400, 5, 10},
                    {20, 10, 8, 9, 20, 3, 400, 5, 10}, {20, 10, 8, 9, 20, 3, 400, 5, 10},
                    {20, 10, 8, 9, 20, 3, 400, 5, 10}, {20, 10, 8, 9, 20, 3, 400, 5, 10}}),
        new Plan("two, the first one breaking its rope", 400, new int[][] {{0, 0, 0}},
                new int[][] {{50, 40, 6, 6, 15, 2, 20, 4, 20}, {30, 25, 4, 6, 10, 1, 110, 6, 5}}),
        new Plan("two, the first one resting", 150, new int[][] {{70, -1, 4}},
                new int[][] {{60, 70, 7, 5, 5, 1, 80, 0, 9}, {25, 18, 3, 8, 10, 3, 260, 7, 33}}),
        new Plan("two, of which one ends", 120, new int[][] {{0, 0, 9}},
                new int[][] {{40, 50, 2, 3, 5, 1, 200, 10, 40}, {20, 14, 6, 9, 15, 2, 390, 8, 2}})};

    private final Checks checks;
    private final Plan plan;
    private final int ticks;

    private AgreementTests(Checks checks, Plan plan, int ticks) {
        this.checks = checks;
        this.plan = plan;
        this.ticks = ticks;
    }

    static void check(Checks checks) {
        for (Plan plan : PLANS) {
            for (int ticks : LOOKS) {
                AgreementTests tests = new AgreementTests(checks, plan, ticks);
                tests.counts();
                tests.ranksMeanAndDigest();
                for (int team = 0; team < plan.teams.length; team++) {
                    tests.rollers(team);
                    tests.next(team);
                    tests.orders(team);
                    tests.foresee(team);
                    tests.advise(team);
                }
                tests.restart();
                tests.ground();
            }
            new AgreementTests(checks, plan, 180).ropesThatBroke();
        }
    }

    private static void run(SledgeRace race, int ticks) {
        for (int left = ticks; left > 0; left -= 500) {
            race.run(Math.min(left, 500));
        }
    }

    private void begin(String promise) {
        checks.begin(promise + ", " + plan.name + ", at " + ticks);
    }

    private void counts() {
        begin("promise 10");
        SledgeRace race = plan.after(ticks);
        int ended = 0;
        for (int team = 0; team < plan.teams.length; team++) {
            boolean isAtEnd = race.team(team, 0) >= plan.length;
            checks.same("it has come to the end", race.team(team, 8) != -1 ? 1 : 0, isAtEnd ? 1 : 0);
            ended += isAtEnd ? 1 : 0;
        }
        checks.same("the tick", race.count(0), ticks);
        checks.same("teams", race.count(1), plan.teams.length);
        checks.same("the length", race.count(2), plan.length);
        checks.same("stretches", race.count(3), plan.stretchesInAll());
        checks.same("ended", race.count(4), ended);
        checks.same("lay() over one", race.lay(0, 0, 3), plan.stretchesInAll());
        SledgeRace then = plan.after(ticks);
        int endedThen = then.run(1);
        for (int team = 0; team < plan.teams.length; team++) {
            endedThen -= then.team(team, 8) != -1 ? 1 : 0;
        }
        checks.same("run(1) less those who have come to the end", endedThen, 0);
    }

    /* Each team alone, tick by tick: just after its rope broke it knots for 14 ticks more. */
    private void ropesThatBroke() {
        begin("promise 10, ropes that broke");
        int sum = 0;
        for (int[] team : plan.teams) {
            Plan alone = new Plan(plan.name, plan.length, plan.stretches, new int[][] {team});
            SledgeRace race = alone.after(0);
            int broken = 0;
            for (int i = 0; i < ticks; i++) {
                race.run(1);
                broken += race.team(0, 3) == 14 ? 1 : 0;
            }
            checks.same("ropes that broke alone", race.count(5), broken);
            sum += broken;
        }
        checks.same("ropes that broke together", plan.after(ticks).count(5), sum);
    }

    private void ranksMeanAndDigest() {
        begin("promises 14, 17, 18");
        SledgeRace race = plan.after(ticks);
        int teams = plan.teams.length;
        double sum = 0;
        for (int team = 0; team < teams; team++) {
            sum += race.team(team, 0);
        }
        checks.same("mean()", race.mean(), sum / teams);
        long d = 461;
        for (int what = 0; what < 6; what++) {
            d = d * 31 + race.count(what);
        }
        for (int team = 0; team < teams; team++) {
            for (int what = 0; what < 12; what++) {
                d = d * 31 + race.team(team, what);
            }
            for (int place : placesOf(race, team)) {
                d = d * 31 + place;
            }
        }
        int[] byRank = new int[teams];
        for (int team = 0; team < teams; team++) {
            byRank[rankOf(race, team)] = team;
        }
        for (int rank = 0; rank < teams; rank++) {
            checks.same("ranked(" + rank + ")", race.ranked(rank), byRank[rank]);
            d = d * 31 + byRank[rank];
        }
        checks.same("digest()", race.digest(), d);
    }

    private int rankOf(SledgeRace race, int asked) {
        int rank = 0;
        for (int team = 0; team < plan.teams.length; team++) {
            rank += team != asked && isAhead(race, team, asked) ? 1 : 0;
        }
        return rank;
    }

    private static boolean isAhead(SledgeRace race, int team, int other) {
        int end = race.team(team, 8);
        int otherEnd = race.team(other, 8);
        if (end != -1 && otherEnd != -1) {
            return end < otherEnd || end == otherEnd && team < other;
        }
        if (end != -1 || otherEnd != -1) {
            return end != -1;
        }
        int lead = race.team(team, 0) - race.team(other, 0);
        return lead > 0 || lead == 0 && team < other;
    }

    private int[] placesOf(SledgeRace race, int team) {
        int[] places = new int[plan.teams[team][ROLLERS]];
        for (int k = 0; k < places.length; k++) {
            int index = k;
            String told = Checks.outcome(() -> race.roller(team, index));
            places[k] = told.equals("throws.IllegalStateException") ? CARRIED : Integer.parseInt(told);
        }
        return places;
    }

    /** How many of the rollers are 0 under the sledge, 1 behind it, 2 ahead of it, 3 carried. */
    private int[] sides(SledgeRace race, int team) {
        int front = race.team(team, 0);
        int back = front - plan.teams[team][LENGTH];
        int[] sides = new int[4];
        for (int place : placesOf(race, team)) {
            sides[place == CARRIED ? 3 : place < back ? 1 : place > front ? 2 : 0]++;
        }
        return sides;
    }

    private void rollers(int team) {
        begin("promises 11, 12");
        SledgeRace race = plan.after(ticks);
        int[] sides = sides(race, team);
        for (int i = 0; i < sides.length; i++) {
            checks.same("team(" + team + ", " + (4 + i) + ")", race.team(team, 4 + i), sides[i]);
        }
        checks.same("no more carried than there are runners",
                Math.max(sides[3], plan.teams[team][RUNNERS]), plan.teams[team][RUNNERS]);
    }

    private void next(int team) {
        begin("promise 13");
        SledgeRace race = plan.after(ticks);
        next(race, team, plan.teams[team][EFFORT], plan.groundAt(race.team(team, 0)));
        race.order(team, 1, 1);
        next(race, team, 1, plan.groundAt(race.team(team, 0)));
        race.lay(0, 0, 2);
        int[] ground = plan.groundAt(race.team(team, 0));
        next(race, team, 1, ground[0] == 0 ? new int[] {0, 0, 2} : ground);
    }

    private void next(SledgeRace race, int team, int effort, int[] ground) {
        int[] t = plan.teams[team];
        int pull = t[PULLERS] * t[STRENGTH] * effort * (500 + race.team(team, 1)) / 5000;
        int drag = Math.max(0, t[WEIGHT] * (20 + 10 * ground[1] + 4 * ground[2]) / 10);
        int under = sides(race, team)[0];
        for (int i = 0; i < under && i < 4; i++) {
            drag -= t[WEIGHT] * (6 - ground[2] / 2) / 10;
        }
        drag = Math.max(drag, t[WEIGHT] / 10);
        drag *= under < 2 ? 2 : 1;
        int way = Math.max(0, Math.min(12, (pull - drag) * 4 / t[WEIGHT]));
        checks.same("next(" + team + ", 0)", race.next(team, 0), pull);
        checks.same("next(" + team + ", 1)", race.next(team, 1), drag);
        checks.same("next(" + team + ", 2)", race.next(team, 2), way);
        boolean pulls = race.team(team, 3) == 0 && pull <= race.team(team, 2);
        if (pulls && race.team(team, 8) == -1) {
            int front = race.team(team, 0);
            race.run(1);
            checks.same("the way gone", race.team(team, 0) - front, way);
            checks.same("the way told", race.team(team, 11), way);
        }
    }

    private void orders(int team) {
        begin("promises 7, 11");
        SledgeRace race = plan.after(ticks);
        int[] t = plan.teams[team];
        checks.same("team(" + team + ", 9)", race.team(team, 9), t[EFFORT]);
        checks.same("team(" + team + ", 10)", race.team(team, 10), t[GAP]);
        int[] facts = factsOf(race, team);
        checks.same("order(" + team + ", 3, 22)", race.order(team, 3, 22), t[EFFORT]);
        facts[9] = 3;
        facts[10] = 22;
        for (int what = 0; what < facts.length; what++) {
            checks.same("team(" + team + ", " + what + ") then", race.team(team, what), facts[what]);
        }
        checks.same("order(" + team + ", 4, 23)", race.order(team, 4, 23), 3);
    }

    private static int[] factsOf(SledgeRace race, int team) {
        int[] facts = new int[12];
        for (int what = 0; what < facts.length; what++) {
            facts[what] = race.team(team, what);
        }
        return facts;
    }

    private void foresee(int team) {
        begin("promise 15");
        SledgeRace race = plan.after(ticks);
        for (int more : new int[] {1, 2, 15, 90, 400}) {
            SledgeRace then = plan.after(ticks + more);
            String call = "foresee(" + team + ", " + more + ", ";
            checks.same(call + "0)", race.foresee(team, more, 0), then.team(team, 0));
            checks.same(call + "1)", race.foresee(team, more, 1), rankOf(then, team));
            checks.same(call + "2)", race.foresee(team, more, 2), then.team(team, 1));
        }
        checks.same("digest() after it", race.digest(), plan.after(ticks).digest());
    }

    private void advise(int team) {
        begin("promise 16");
        for (int more : new int[] {1, 16, 200}) {
            int best = 0;
            int farthest = -1;
            for (int effort = 0; effort <= 10; effort++) {
                SledgeRace race = plan.after(ticks);
                race.order(team, effort, plan.teams[team][GAP]);
                race.run(more);
                if (race.team(team, 0) > farthest) {
                    farthest = race.team(team, 0);
                    best = effort;
                }
            }
            SledgeRace race = plan.after(ticks);
            checks.same("advise(" + team + ", " + more + ")", race.advise(team, more), best);
            checks.same("digest() after it", race.digest(), plan.after(ticks).digest());
        }
    }

    private void restart() {
        begin("promise 9");
        SledgeRace race = plan.after(ticks);
        checks.same("restart()", race.restart(), plan.teams.length);
        checks.same("digest() after it", race.digest(), plan.after(0).digest());
        for (int team = 0; team < plan.teams.length; team++) {
            checks.same("pullers", race.setCrew(team, 1, 2, 3, 44), plan.teams[team][PULLERS]);
        }
        SledgeRace again = plan.after(ticks);
        again.restart();
        again.run(37);
        checks.same("digest() at 37 once more", again.digest(), plan.after(37).digest());
    }

    private void ground() {
        begin("promise 4");
        SledgeRace race = plan.after(ticks);
        for (int place = -20; place <= 260; place += 5) {
            int[] due = plan.groundAt(place);
            checks.same("slope at " + place, race.ground(place, false), due[1]);
            checks.same("softness at " + place, race.ground(place, true), due[2]);
        }
    }
}

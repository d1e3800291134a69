import java.math.BigInteger;

/** Promises 1 to 18 at the least and the greatest values that are taken, empty and full; reckoned by hand. */
final class LimitTests {
    static void check(Checks checks) {
        newRace(checks);
        shortestAndLongestTrack(checks);
        stretches(checks);
        groundFarOut(checks);
        smallestAndGreatestTeam(checks);
        crews(checks);
        ropes(checks);
        gaps(checks);
        orders(checks);
        ticks(checks);
        endedInAll(checks);
        restarts(checks);
        counts(checks);
        rollers(checks);
        pulls(checks);
        drags(checks);
        ways(checks);
        ranks(checks);
        ranksOfEnded(checks);
        foreseen(checks);
        advised(checks);
        means(checks);
        wrapsAround(checks);
    }

    /** A team that makes 12 hands in each tick, to whatever end. */
    private static int addFast(SledgeRace race) {
        int team = race.addTeam(20, 10, 8);
        race.setCrew(team, 9, 20, 3, 400);
        return team;
    }

    private static void newRace(Checks checks) {
        checks.begin("promise 1, at first");
        SledgeRace race = new SledgeRace();
        checks.same("digest() of another one", new SledgeRace().digest(), race.digest());
        for (int place : new int[] {-100, -1, 0, 1, 1999, 2000, 3000}) {
            checks.same("slope at " + place, race.ground(place, false), 0);
            checks.same("softness at " + place, race.ground(place, true), 2);
        }
        checks.same("mean()", race.mean(), 0.0);
        checks.same("restart()", race.restart(), 0);
        checks.same("setLength(500)", race.setLength(500), 500);
        checks.same("lay(0, 0, 2)", race.lay(0, 0, 2), 1);
        checks.same("digest() after the same once more", race.digest(), new SledgeRace().digest());
        checks.same("addTeam(40, 30, 4)", race.addTeam(40, 30, 4), 0);
    }

    private static void shortestAndLongestTrack(Checks checks) {
        checks.begin("promise 2, setLength, limits");
        int[] lengths = {100, 500, 2000};
        int[] ends = {9, 42, 167};
        SledgeRace race = new SledgeRace();
        addFast(race);
        int before = 500;
        for (int i = 0; i < lengths.length; i++) {
            checks.same("setLength(" + lengths[i] + ")", race.setLength(lengths[i]), before);
            checks.same("count(2)", race.count(2), lengths[i]);
            checks.same("run ahead of the end", race.run(ends[i] - 1), 0);
            checks.same("run to the end", race.run(1), 1);
            checks.same("end", race.team(0, 8), ends[i]);
            checks.same("front", race.team(0, 0), 12 * ends[i]);
            race.restart();
            checks.same("length after restart", race.count(2), lengths[i]);
            before = lengths[i];
        }
        checks.same("setLength(2000), the same", race.setLength(2000), 2000);
    }

    private static void stretches(Checks checks) {
        checks.begin("promise 3, lay, limits");
        SledgeRace race = new SledgeRace();
        race.setLength(100);
        checks.same("lay(1999, -5, 9) behind the end", race.lay(1999, -5, 9), 2);
        checks.same("lay(0, 5, 0)", race.lay(0, 5, 0), 2);
        checks.same("slope at 0", race.ground(0, false), 5);
        checks.same("softness at 0", race.ground(0, true), 0);
        checks.same("slope at 1999", race.ground(1999, false), -5);
        checks.same("softness at 1999", race.ground(1999, true), 9);
        checks.same("lay(1999, 5, 0)", race.lay(1999, 5, 0), 2);
        checks.same("lay(0, -5, 9)", race.lay(0, -5, 9), 2);
        checks.same("slope at 1998", race.ground(1998, false), -5);
        checks.same("softness at 1998", race.ground(1998, true), 9);
        checks.same("slope at 2000", race.ground(2000, false), 5);
        checks.same("softness at 2000", race.ground(2000, true), 0);
        for (int i = 1; i <= 10; i++) {
            checks.same("lay", race.lay(i, 0, i % 10), i + 2);
        }
        checks.same("count(3), full", race.count(3), 12);
        checks.badState(race, "lay(11, 0, 0), none beginning there", () -> race.lay(11, 0, 0));
        checks.same("lay(10, 1, 1), one beginning there", race.lay(10, 1, 1), 12);
        checks.same("lay(1999, 0, 1), the last one", race.lay(1999, 0, 1), 12);
        addFast(race);
        race.run(1);
        checks.same("lay(10, 2, 2) in the race", race.lay(10, 2, 2), 12);
        checks.badState(race, "lay(11, 0, 0) in the race", () -> race.lay(11, 0, 0));
        race.restart();
        checks.same("slope at 1998 after restart", race.ground(1998, false), 2);
    }

    private static void groundFarOut(Checks checks) {
        checks.begin("promise 4, ground, limits");
        SledgeRace race = new SledgeRace();
        race.lay(0, -5, 9);
        race.lay(1, 1, 1);
        race.lay(1999, 5, 0);
        int[] places = {-100, -1, 0, 1, 2, 1998, 1999, 2000, 3000};
        int[] slopes = {-5, -5, -5, 1, 1, 1, 5, 5, 5};
        int[] softnesses = {9, 9, 9, 1, 1, 1, 0, 0, 0};
        for (int i = 0; i < places.length; i++) {
            checks.same("slope at " + places[i], race.ground(places[i], false), slopes[i]);
            checks.same("softness at " + places[i], race.ground(places[i], true), softnesses[i]);
        }
    }

    private static void smallestAndGreatestTeam(Checks checks) {
        checks.begin("promise 5, addTeam, limits");
        SledgeRace race = new SledgeRace();
        checks.same("addTeam(20, 10, 2)", race.addTeam(20, 10, 2), 0);
        checks.same("addTeam(80, 99, 8)", race.addTeam(80, 99, 8), 1);
        checks.same("addTeam(20, 99, 8)", race.addTeam(20, 99, 8), 2);
        checks.same("addTeam(80, 10, 2)", race.addTeam(80, 10, 2), 3);
        checks.same("addTeam(80, 10, 8)", race.addTeam(80, 10, 8), 4);
        checks.same("addTeam(20, 99, 2)", race.addTeam(20, 99, 2), 5);
        int[] lengths = {20, 80, 20, 80, 80, 20};
        int[] rollers = {2, 8, 8, 2, 8, 2};
        // weight * 28 / 10, less weight * 5 / 10 for each of 2 or 4 rollers
        int[] drags = {18, 277 - 4 * 49, 277 - 4 * 49, 18, 8, 277 - 2 * 49};
        for (int team = 0; team < 6; team++) {
            for (int k = 0; k < rollers[team]; k++) {
                int due = -((k + 1) * lengths[team] / (rollers[team] + 1));
                checks.same("roller(" + team + ", " + k + ")", race.roller(team, k), due);
            }
            int asked = team;
            checks.badIndex(race, "roller beyond", () -> race.roller(asked, rollers[asked]));
            checks.same("under", race.team(team, 4), rollers[team]);
            checks.same("drag", race.next(team, 1), drags[team]);
            // 4 pullers of the strength 10
            checks.same("pull", race.next(team, 0), 60);
            checks.same("rope", race.team(team, 2), 200);
        }
        checks.badState(race, "addTeam(20, 10, 2) as the 7th", () -> race.addTeam(20, 10, 2));
        race.run(1);
        checks.badState(race, "addTeam(20, 10, 2), full and begun", () -> race.addTeam(20, 10, 2));
        race.restart();
        checks.badState(race, "addTeam(20, 10, 2), full again", () -> race.addTeam(20, 10, 2));
    }

    private static void crews(Checks checks) {
        checks.begin("promise 6, setCrew, limits");
        SledgeRace race = new SledgeRace();
        for (int team = 0; team < 6; team++) {
            race.addTeam(20, 10, 8);
        }
        checks.same("setCrew(5, 1, 1, 1, 20)", race.setCrew(5, 1, 1, 1, 20), 4);
        checks.same("rope", race.team(5, 2), 20);
        checks.same("pull, 1.5 cut", race.next(5, 0), 1);
        checks.same("setCrew(5, 9, 20, 3, 400)", race.setCrew(5, 9, 20, 3, 400), 1);
        checks.same("rope", race.team(5, 2), 400);
        checks.same("pull", race.next(5, 0), 270);
        checks.same("setCrew(0, 1, 20, 3, 20)", race.setCrew(0, 1, 20, 3, 20), 4);
        checks.same("pull", race.next(0, 0), 30);
        checks.same("setCrew(0, 9, 1, 1, 400)", race.setCrew(0, 9, 1, 1, 400), 1);
        checks.same("pull, 13.5 cut", race.next(0, 0), 13);
        checks.same("setCrew(5, 2, 2, 2, 30)", race.setCrew(5, 2, 2, 2, 30), 9);
        checks.same("way, not begun", race.team(5, 11), 0);
        checks.same("front, not begun", race.team(5, 0), 0);
        // At 1 two rollers lie behind the back at -8; at 2 it is at 4, and one more does.
        int[] carried = {1, 2, 3};
        for (int runners = 1; runners <= 3; runners++) {
            SledgeRace each = new SledgeRace();
            each.addTeam(20, 10, 8);
            each.setCrew(0, 9, 20, runners, 400);
            each.run(2);
            checks.same("carried by " + runners, each.team(0, 7), carried[runners - 1]);
        }
    }

    private static void ropes(Checks checks) {
        checks.begin("promise 6, setCrew, ropes");
        // 4 * 17 * 1 * 1500 / 5000 = 20.4, 7 * 10 * 1 * 1500 / 5000 = 21
        rope(checks, 4, 17, 20, new int[] {1}, 20, 20, 0);
        rope(checks, 7, 10, 20, new int[] {1}, 21, 18, 1);
        // 9 * 15 * 10 * 1482 / 5000 = 400.14, 9 * 15 * 10 * 1486 / 5000 = 401.22
        rope(checks, 9, 15, 400, new int[] {7, 7, 7, 10}, 400, 400, 0);
        rope(checks, 9, 15, 400, new int[] {8, 10}, 401, 360, 1);
    }

    private static void rope(Checks checks, int pullers, int strength, int rope, int[] efforts, int pull, int then,
            int broken) {
        SledgeRace race = new SledgeRace();
        race.addTeam(80, 99, 2);
        race.setCrew(0, pullers, strength, 1, rope);
        for (int i = 0; i < efforts.length; i++) {
            checks.same("ropes that broke ahead of it", race.count(5), 0);
            race.order(0, efforts[i], 10);
            if (i == efforts.length - 1) {
                checks.same("pull", race.next(0, 0), pull);
            }
            race.run(1);
        }
        checks.same("rope", race.team(0, 2), then);
        checks.same("ropes that broke", race.count(5), broken);
        checks.same("knots", race.team(0, 3), 14 * broken);
        race.restart();
        checks.same("rope after restart", race.team(0, 2), rope);
        checks.same("ropes that broke after restart", race.count(5), 0);
    }

    private static void gaps(Checks checks) {
        checks.begin("promise 7, order, gaps");
        // The roller at -22 is taken at 5, with the front at 20: (20 + gap + 22) / 12 + 2 ticks.
        int[] gaps = {1, 5, 6, 17, 18, 40};
        int[] laidAt = {10, 10, 11, 11, 12, 13};
        // At 13 two rollers are under it, one lies behind: (60 - 54) * 4 / 30 = 0.
        int[] fronts = {30, 30, 32, 32, 34, 34};
        for (int i = 0; i < gaps.length; i++) {
            SledgeRace race = new SledgeRace();
            race.addTeam(40, 30, 4);
            checks.same("order", race.order(0, 5, gaps[i]), 5);
            checks.same("gap", race.team(0, 10), gaps[i]);
            race.run(laidAt[i] - 1);
            checks.badState(race, "roller(0, 3) with the gap " + gaps[i], () -> race.roller(0, 3));
            race.run(1);
            checks.same("front", race.team(0, 0), fronts[i]);
            checks.same("roller(0, 3) with the gap " + gaps[i], race.roller(0, 3), fronts[i] + gaps[i]);
            checks.same("ahead", race.team(0, 6), 1);
        }
    }

    private static void orders(Checks checks) {
        checks.begin("promise 7, order, limits");
        SledgeRace race = new SledgeRace();
        for (int team = 0; team < 6; team++) {
            race.addTeam(40, 30, 4);
        }
        checks.same("order(5, 0, 1)", race.order(5, 0, 1), 5);
        checks.same("pull with the effort 0", race.next(5, 0), 0);
        checks.same("order(5, 10, 40)", race.order(5, 10, 40), 0);
        checks.same("pull with the effort 10", race.next(5, 0), 120);
        checks.same("order(0, 10, 1)", race.order(0, 10, 1), 5);
        checks.same("order(0, 0, 40)", race.order(0, 0, 40), 10);
        race.run(2);
        checks.same("front with the effort 0", race.team(0, 0), 0);
        // (120 - 24) * 4 / 30 = 12.8
        checks.same("front with the effort 10", race.team(5, 0), 24);
        int[] facts = facts(race, 5);
        checks.same("order(5, 0, 1), from the next tick on", race.order(5, 0, 1), 10);
        facts[9] = 0;
        facts[10] = 1;
        same(checks, race, 5, facts);
        race.run(1);
        checks.same("front", race.team(5, 0), 24);
        checks.same("way", race.team(5, 11), 0);
    }

    private static int[] facts(SledgeRace race, int team) {
        int[] facts = new int[12];
        for (int what = 0; what < facts.length; what++) {
            facts[what] = race.team(team, what);
        }
        return facts;
    }

    private static void same(Checks checks, SledgeRace race, int team, int[] facts) {
        for (int what = 0; what < facts.length; what++) {
            checks.same("team(" + team + ", " + what + ")", race.team(team, what), facts[what]);
        }
    }

    private static void ticks(Checks checks) {
        checks.begin("promise 8, run, limits");
        SledgeRace atOnce = new SledgeRace();
        SledgeRace oneByOne = new SledgeRace();
        for (SledgeRace race : new SledgeRace[] {atOnce, oneByOne}) {
            addFast(race);
            race.addTeam(40, 30, 8);
            race.setCrew(1, 9, 20, 2, 400);
        }
        checks.same("run(500)", atOnce.run(500), 2);
        int ended = 0;
        for (int i = 0; i < 500; i++) {
            ended = oneByOne.run(1);
        }
        checks.same("run(1) for the 500th time", ended, 2);
        checks.same("tick", atOnce.count(0), 500);
        checks.same("digest()", oneByOne.digest(), atOnce.digest());
        checks.same("run(1), all having come to the end", atOnce.run(1), 2);
        checks.same("tick", atOnce.count(0), 501);
        checks.same("run(500), all having come to the end", atOnce.run(500), 2);
        checks.same("tick", atOnce.count(0), 1001);
    }

    private static void endedInAll(Checks checks) {
        checks.begin("promise 8, run, ended in all");
        SledgeRace race = new SledgeRace();
        race.setLength(100);
        addFast(race);
        addFast(race);
        race.addTeam(40, 30, 4);
        race.order(1, 0, 10);
        race.order(2, 0, 10);
        checks.same("run(5)", race.run(5), 0);
        race.order(1, 5, 10);
        checks.same("run(3)", race.run(3), 0);
        checks.same("run(1) to 9", race.run(1), 1);
        checks.same("run(4) to 13", race.run(4), 1);
        checks.same("run(1) to 14", race.run(1), 2);
        checks.same("run(500)", race.run(500), 2);
        checks.same("end of 0", race.team(0, 8), 9);
        checks.same("end of 1", race.team(1, 8), 14);
        checks.same("end of 2", race.team(2, 8), -1);
    }

    private static void restarts(Checks checks) {
        checks.begin("promise 9, restart, limits");
        SledgeRace empty = new SledgeRace();
        empty.lay(7, 1, 1);
        checks.same("restart() without teams", empty.restart(), 0);
        checks.same("stretches stay", empty.count(3), 2);
        SledgeRace race = new SledgeRace();
        race.setLength(100);
        for (int team = 0; team < 6; team++) {
            race.addTeam(20, 10, 8);
            race.setCrew(team, 9, 20, 3, 100 + 60 * team);
            race.order(team, 6, 10 + team);
        }
        // 9 * 20 * 6 * 1500 / 5000 = 324: the ropes of 100 to 280 break, those of 340 and 400 hold.
        race.run(4);
        checks.same("knots", race.team(0, 3), 11);
        checks.same("carried", race.team(5, 7), 3);
        restarted(checks, race);
        race.run(9);
        checks.same("ended", race.count(4), 2);
        restarted(checks, race);
        race.order(4, 7, 14);
        race.order(5, 7, 15);
        race.run(3);
        checks.same("breath", race.team(5, 1), 982);
        race.order(4, 6, 14);
        race.order(5, 6, 15);
        restarted(checks, race);
        race.order(3, 10, 40);
        restarted(checks, race);
        // A knot or a load from before would stop a team or a runner now.
        race.order(0, 1, 10);
        race.order(3, 6, 13);
        race.run(1);
        checks.same("front of 0", race.team(0, 0), 12);
        checks.same("carried by 0", race.team(0, 7), 2);
    }

    private static void restarted(Checks checks, SledgeRace race) {
        int effort = race.team(3, 9);
        int gap = race.team(3, 10);
        checks.same("restart()", race.restart(), 6);
        int[] counts = {0, 6, 100, 1, 0, 0};
        for (int what = 0; what < counts.length; what++) {
            checks.same("count(" + what + ")", race.count(what), counts[what]);
        }
        for (int team = 0; team < 6; team++) {
            int[] facts = {0, 1000, 100 + 60 * team, 0, 8, 0, 0, 0, -1, 6, 10 + team, 0};
            facts[9] = team == 3 ? effort : 6;
            facts[10] = team == 3 ? gap : 10 + team;
            same(checks, race, team, facts);
        }
        int[] places = {-2, -4, -6, -8, -11, -13, -15, -17};
        for (int k = 0; k < places.length; k++) {
            checks.same("roller(5, " + k + ")", race.roller(5, k), places[k]);
        }
    }

    private static void counts(Checks checks) {
        checks.begin("promise 10, count, full");
        SledgeRace race = new SledgeRace();
        race.setLength(2000);
        for (int i = 1; i <= 11; i++) {
            race.lay(150 * i, 0, 2);
        }
        for (int team = 0; team < 6; team++) {
            race.addTeam(20, 10, 8);
            race.setCrew(team, 9, 20, 3, 400);
        }
        race.run(167);
        int[] ended = {167, 6, 2000, 12, 6, 0};
        for (int what = 0; what < ended.length; what++) {
            checks.same("count(" + what + "), ended", race.count(what), ended[what]);
        }
        race.restart();
        for (int team = 0; team < 6; team++) {
            race.setCrew(team, 9, 20, 3, 20);
        }
        int[] atTicks = {1, 15, 16, 30, 31};
        int[] broken = {6, 6, 12, 12, 18};
        for (int i = 0; i < atTicks.length; i++) {
            race.run(atTicks[i] - race.count(0));
            checks.same("ropes that broke at " + atTicks[i], race.count(5), broken[i]);
        }
    }

    private static void rollers(Checks checks) {
        checks.begin("promise 12, roller, limits");
        SledgeRace race = new SledgeRace();
        for (int team = 0; team < 6; team++) {
            addFast(race);
        }
        checks.same("roller(5, 0)", race.roller(5, 0), -2);
        checks.same("roller(5, 7)", race.roller(5, 7), -17);
        race.run(1);
        checks.same("roller(5, 5)", race.roller(5, 5), -7);
        checks.badState(race, "roller(5, 6), carried", () -> race.roller(5, 6));
        checks.badState(race, "roller(5, 7), carried", () -> race.roller(5, 7));
        checks.badIndex(race, "roller(5, 8)", () -> race.roller(5, 8));
        race.run(4);
        checks.same("roller(5, 7), laid", race.roller(5, 7), 70);
        checks.same("carried", race.team(5, 7), 1);
    }

    private static void pulls(Checks checks) {
        checks.begin("promise 13, next, pull");
        SledgeRace race = new SledgeRace();
        race.addTeam(80, 99, 2);
        race.setCrew(0, 9, 20, 1, 400);
        race.order(0, 10, 10);
        checks.same("greatest pull, beyond any rope", race.next(0, 0), 540);
        race.order(0, 0, 10);
        checks.same("least pull", race.next(0, 0), 0);
        race.order(0, 7, 10);
        race.run(4);
        race.order(0, 4, 10);
        race.run(1);
        checks.same("breath", race.team(0, 1), 986);
        race.order(0, 10, 10);
        // 9 * 20 * 10 * 1486 / 5000 = 534.96
        checks.same("pull, cut", race.next(0, 0), 534);
        SledgeRace tired = new SledgeRace();
        tired.addTeam(40, 30, 4);
        tired.order(0, 10, 10);
        tired.run(32);
        checks.same("breath", tired.team(0, 1), 0);
        checks.same("pull without breath", tired.next(0, 0), 40);
    }

    private static void drags(Checks checks) {
        checks.begin("promise 13, next, drag");
        SledgeRace race = new SledgeRace();
        int[] rollers = {2, 3, 4, 5, 8};
        // 99 * (20 + 50 + 36) / 10 = 1049, less 99 * (6 - 4) / 10 = 19 for each of at most 4
        int[] steep = {1011, 992, 973, 973, 973};
        // 99 * (20 + 28) / 10 = 475, less 99 * (6 - 3) / 10 = 29 for each of at most 4
        int[] soft = {417, 388, 359, 359, 359};
        for (int i = 0; i < rollers.length; i++) {
            race.addTeam(80, 99, rollers[i]);
            race.lay(0, 5, 9);
            checks.same("greatest drag with " + rollers[i], race.next(i, 1), steep[i]);
            race.lay(0, 0, 7);
            checks.same("drag with " + rollers[i], race.next(i, 1), soft[i]);
            race.lay(0, -5, 0);
            checks.same("least drag with " + rollers[i], race.next(i, 1), 9);
        }
        race.addTeam(20, 10, 2);
        checks.same("least drag of the lightest", race.next(5, 1), 1);
        race.lay(0, -1, 0);
        // 10 * (20 - 10) / 10 = 10, less 6 for each: less than 0
        checks.same("drag, less than 0 by the rollers", race.next(5, 1), 1);
        race.lay(0, 0, 1);
        // 10 * 24 / 10 = 24, less 10 * (6 less 1 / 2) / 10 = 6 for each
        checks.same("half of the softness, cut", race.next(5, 1), 12);
        SledgeRace few = new SledgeRace();
        few.addTeam(40, 30, 2);
        few.setCrew(0, 9, 20, 1, 400);
        few.run(3);
        checks.same("under", few.team(0, 4), 1);
        few.lay(0, -5, 0);
        checks.same("least drag with 1 under, twice", few.next(0, 1), 6);
        few.run(2);
        checks.same("under", few.team(0, 4), 0);
        checks.same("least drag with 0 under, twice", few.next(0, 1), 6);
    }

    private static void ways(Checks checks) {
        checks.begin("promise 13, next, way");
        // pullers, strength, effort, pull, way: the drag is 24, the weight 30.
        int[][] cases = {{4, 10, 0, 0, 0}, {1, 1, 10, 3, 0}, {9, 9, 1, 24, 0}, {7, 15, 1, 31, 0}, {9, 12, 1, 32, 1},
            {9, 14, 3, 113, 11}, {4, 19, 5, 114, 12}, {8, 17, 3, 122, 12}, {9, 20, 10, 540, 12}};
        for (int[] c : cases) {
            SledgeRace race = new SledgeRace();
            race.addTeam(40, 30, 4);
            race.setCrew(0, c[0], c[1], 1, 400);
            race.order(0, c[2], 10);
            checks.same("pull", race.next(0, 0), c[3]);
            checks.same("drag", race.next(0, 1), 24);
            checks.same("way with the pull " + c[3], race.next(0, 2), c[4]);
            if (c[3] <= 400) {
                race.run(1);
                checks.same("way of the tick", race.team(0, 11), c[4]);
                checks.same("front", race.team(0, 0), c[4]);
                checks.same("roller 0, half of it, cut", race.roller(0, 0), c[4] / 2 - 8);
            }
        }
    }

    private static void ranks(Checks checks) {
        checks.begin("promise 14, ranked, six teams");
        SledgeRace race = new SledgeRace();
        race.setLength(100);
        for (int team = 0; team < 6; team++) {
            addFast(race);
        }
        ranked(checks, race, 0, 1, 2, 3, 4, 5);
        // 3 and 5 go from the first tick on, 1 and 4 from the second, 2 from the third, 0 not at all.
        int[] efforts = {0, 0, 0, 5, 0, 5};
        for (int team = 0; team < 6; team++) {
            race.order(team, efforts[team], 10);
        }
        race.run(1);
        ranked(checks, race, 3, 5, 0, 1, 2, 4);
        race.order(1, 5, 10);
        race.order(4, 5, 10);
        race.run(1);
        ranked(checks, race, 3, 5, 1, 4, 0, 2);
        race.order(2, 5, 10);
        race.run(6);
        ranked(checks, race, 3, 5, 1, 4, 2, 0);
        checks.same("ended at 8", race.count(4), 0);
        race.run(1);
        checks.same("ended at 9", race.count(4), 2);
        ranked(checks, race, 3, 5, 1, 4, 2, 0);
        race.run(2);
        checks.same("ended at 11", race.count(4), 5);
        ranked(checks, race, 3, 5, 1, 4, 2, 0);
        race.restart();
        ranked(checks, race, 0, 1, 2, 3, 4, 5);
    }

    /* Of those who ended the tick tells, then the number: how far they came does not. */
    private static void ranksOfEnded(Checks checks) {
        checks.begin("promise 14, ranked, those who ended");
        // 9 * 8 * 1 * 1500 / 5000 = 21, (21 - 8) * 4 / 10 = 5: at 9 it is at 101, at 10 at 113.
        endedBeside(checks, 8, 10, 113, new int[] {1, 0});
        // 9 * 10 * 1 * 1500 / 5000 = 27, (27 - 8) * 4 / 10 = 7: at 9 it is at 103.
        endedBeside(checks, 10, 9, 103, new int[] {0, 1});
    }

    /* Team 0 makes less than 12 hands in its first tick; team 1 ends at 9, with the front at 108. */
    private static void endedBeside(Checks checks, int strength, int end, int front, int[] due) {
        SledgeRace race = new SledgeRace();
        race.setLength(102);
        addFast(race);
        addFast(race);
        race.setCrew(0, 9, strength, 3, 400);
        race.order(0, 1, 10);
        race.run(1);
        race.order(0, 5, 10);
        checks.same("rank of 0 seen at 1", race.foresee(0, 20, 1), due[0]);
        race.run(8);
        checks.same("end of 1", race.team(1, 8), 9);
        checks.same("front of 1", race.team(1, 0), 108);
        // Team 1 has ended by now, team 0 perhaps not: what has come and what is foreseen are told in the same ticks.
        checks.same("rank of 0 seen at 9", race.foresee(0, 1, 1), due[0]);
        checks.same("rank of 1 seen at 9", race.foresee(1, 1, 1), due[1]);
        race.run(1);
        checks.same("end of 0", race.team(0, 8), end);
        checks.same("front of 0", race.team(0, 0), front);
        ranked(checks, race, due);
    }

    private static void ranked(Checks checks, SledgeRace race, int... due) {
        for (int rank = 0; rank < due.length; rank++) {
            checks.same("ranked(" + rank + ") at " + race.count(0), race.ranked(rank), due[rank]);
        }
    }

    private static void foreseen(Checks checks) {
        checks.begin("promise 15, foresee, limits");
        SledgeRace race = new SledgeRace();
        race.setLength(100);
        for (int team = 0; team < 6; team++) {
            addFast(race);
            race.order(team, team, 10);
        }
        race.setLength(2000);
        race.order(5, 7, 10);
        checks.same("foresee(5, 1, 0)", race.foresee(5, 1, 0), 12);
        checks.same("foresee(5, 1, 2)", race.foresee(5, 1, 2), 994);
        checks.same("foresee(5, 400, 0)", race.foresee(5, 400, 0), 2004);
        checks.same("foresee(0, 400, 0)", race.foresee(0, 400, 0), 0);
        checks.same("foresee(0, 400, 1)", race.foresee(0, 400, 1), 5);
        checks.same("foresee(0, 1, 1)", race.foresee(0, 1, 1), 5);
        race.restart();
        race.setLength(100);
        // It comes to the end at 9, and is as it was then for good.
        checks.same("foresee(5, 8, 0)", race.foresee(5, 8, 0), 96);
        checks.same("foresee(5, 9, 0)", race.foresee(5, 9, 0), 108);
        checks.same("foresee(5, 10, 0)", race.foresee(5, 10, 0), 108);
        checks.same("foresee(5, 400, 0)", race.foresee(5, 400, 0), 108);
        checks.same("foresee(5, 9, 2)", race.foresee(5, 9, 2), 946);
        checks.same("foresee(5, 400, 2)", race.foresee(5, 400, 2), 946);
        race.run(9);
        checks.same("foresee(5, 1, 0), ended", race.foresee(5, 1, 0), 108);
        checks.same("foresee(5, 400, 2), ended", race.foresee(5, 400, 2), 946);
        race.order(5, 0, 1);
        checks.same("foresee(5, 400, 2), ended and told", race.foresee(5, 400, 2), 946);
        checks.same("tick", race.count(0), 9);
        foreseenKnots(checks);
    }

    private static void foreseenKnots(Checks checks) {
        SledgeRace race = new SledgeRace();
        race.addTeam(40, 30, 4);
        race.setCrew(0, 4, 10, 1, 59);
        race.order(0, 10, 10);
        // It pulls 120 from the rope 59, knots to the tick 15, and breaks it again at 16.
        checks.same("foresee(0, 1, 0)", race.foresee(0, 1, 0), 0);
        checks.same("foresee(0, 400, 0)", race.foresee(0, 400, 0), 0);
        checks.same("foresee(0, 400, 2)", race.foresee(0, 400, 2), 1000);
        checks.same("rope", race.team(0, 2), 59);
        checks.same("ropes that broke", race.count(5), 0);
        race.run(1);
        race.order(0, 4, 10);
        // 4 * 10 * 4 * 1500 / 5000 = 48, of the rope 54; (48 - 24) * 4 / 30 = 3
        checks.same("foresee(0, 14, 0), knotting", race.foresee(0, 14, 0), 0);
        checks.same("foresee(0, 15, 0), having knotted", race.foresee(0, 15, 0), 3);
    }

    private static void advised(Checks checks) {
        checks.begin("promise 16, advise, limits");
        SledgeRace race = new SledgeRace();
        race.setLength(2000);
        for (int team = 0; team < 6; team++) {
            addFast(race);
        }
        // 12 hands want (pull - 8) * 4 / 10 at least 12: a pull of 38, and each effort gives 54.
        checks.same("advise(5, 1)", race.advise(5, 1), 1);
        race.setCrew(5, 1, 1, 1, 20);
        // 1 * 1 * 10 * 1500 / 5000 = 3, less than the drag
        checks.same("advise(5, 1), no effort moving it", race.advise(5, 1), 0);
        checks.same("advise(5, 200), no effort moving it", race.advise(5, 200), 0);
        race.setCrew(5, 9, 20, 1, 20);
        checks.same("advise(5, 1), each effort breaking the rope", race.advise(5, 1), 0);
        race.setCrew(5, 4, 10, 1, 200);
        race.order(5, 3, 7);
        int told = race.advise(5, 200);
        checks.same("effort after it", race.team(5, 9), 3);
        checks.same("gap after it", race.team(5, 10), 7);
        checks.same("tick after it", race.count(0), 0);
        checks.same("advise(5, 200)", told, best(race, 5, 200));
        race.run(167);
        checks.same("advise(0, 1), at the end", race.advise(0, 1), 0);
        checks.same("advise(0, 200), at the end", race.advise(0, 200), 0);
    }

    /** By foresee, which promise 15 holds to what comes. */
    private static int best(SledgeRace race, int team, int ticks) {
        int effortBefore = race.team(team, 9);
        int best = 0;
        int farthest = -1;
        for (int effort = 0; effort <= 10; effort++) {
            race.order(team, effort, race.team(team, 10));
            if (race.foresee(team, ticks, 0) > farthest) {
                farthest = race.foresee(team, ticks, 0);
                best = effort;
            }
        }
        race.order(team, effortBefore, race.team(team, 10));
        return best;
    }

    private static void means(Checks checks) {
        checks.begin("promise 17, mean, six teams");
        SledgeRace race = new SledgeRace();
        race.setLength(100);
        addFast(race);
        checks.same("mean() of 0", race.mean(), 0.0);
        for (int team = 1; team < 6; team++) {
            race.addTeam(40, 30, 4);
        }
        race.order(5, 0, 10);
        race.run(1);
        checks.same("mean() of 12, four 4 and 0", race.mean(), 28.0 / 6.0);
        race.run(8);
        int sum = 0;
        for (int team = 0; team < 6; team++) {
            sum += race.team(team, 0);
        }
        checks.same("ended", race.count(4), 1);
        // At 9 the four are at 28: 20 at 5, and from then on 2 each tick with 3 rollers.
        checks.same("mean() of 108, four 28 and 0", race.mean(), 220.0 / 6.0);
        checks.same("sum", sum, 220);
        race.restart();
        checks.same("mean() after restart", race.mean(), 0.0);
    }

    /* The same sum in numbers without bounds: it must have left 64 bits for the test to show something. */
    private static void wrapsAround(Checks checks) {
        checks.begin("promise 18, digest, wrap-around");
        boolean hasNegative = false;
        boolean hasPositive = false;
        for (int ticks = 1; ticks <= 20; ticks++) {
            SledgeRace race = new SledgeRace();
            for (int team = 0; team < 6; team++) {
                addFast(race);
            }
            race.run(ticks);
            BigInteger d = unbounded(race);
            checks.same("beyond 64 bits", d.bitLength() > 64 ? 1 : 0, 1);
            checks.same("digest() at " + ticks, race.digest(), d.longValue());
            hasNegative |= race.digest() < 0;
            hasPositive |= race.digest() > 0;
        }
        checks.same("some less than 0, some greater", hasNegative && hasPositive ? 1 : 0, 1);
        // 461 * 31^6 and less: as long as there are no teams, nothing wraps around.
        long due = 461L * 31 * 31 * 31 * 31 * 31 * 31 + 500L * 31 * 31 * 31 + 31 * 31;
        checks.same("digest() without teams", new SledgeRace().digest(), due);
    }

    private static BigInteger unbounded(SledgeRace race) {
        BigInteger d = BigInteger.valueOf(461);
        for (int what = 0; what < 6; what++) {
            d = joined(d, race.count(what));
        }
        for (int team = 0; team < 6; team++) {
            for (int what = 0; what < 12; what++) {
                d = joined(d, race.team(team, what));
            }
            for (int k = 0; k < 8; k++) {
                int asked = team;
                int index = k;
                String place = Checks.outcome(() -> race.roller(asked, index));
                d = joined(d, place.equals("throws.IllegalStateException") ? -9999 : Long.parseLong(place));
            }
        }
        for (int rank = 0; rank < 6; rank++) {
            d = joined(d, race.ranked(rank));
        }
        return d;
    }

    private static BigInteger joined(BigInteger d, long x) {
        return d.multiply(BigInteger.valueOf(31)).add(BigInteger.valueOf(x));
    }
}

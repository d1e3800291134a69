/** Promises 15 to 18: looking ahead, the mean and the checksum. */
final class AheadTests {
    static void check(Checks checks) {
        foresee(checks);
        foreseenEnds(checks);
        foreseenRunners(checks);
        foreseenIsWhatComes(checks);
        advise(checks);
        mean(checks);
        digest(checks);
    }

    private static void foresee(Checks checks) {
        checks.begin("promise 15, foresee");
        SledgeRace race = new SledgeRace();
        race.setLength(100);
        race.addTeam(40, 30, 4);
        race.addTeam(20, 10, 8);
        race.setCrew(1, 9, 20, 3, 400);
        String before = Checks.everything(race);
        checks.same("foresee(0, 1, 0)", race.foresee(0, 1, 0), 4);
        checks.same("foresee(0, 5, 0)", race.foresee(0, 5, 0), 20);
        checks.same("foresee(0, 11, 0)", race.foresee(0, 11, 0), 32);
        checks.same("foresee(1, 400, 0)", race.foresee(1, 400, 0), 108);
        checks.same("foresee(0, 1, 1)", race.foresee(0, 1, 1), 1);
        checks.same("foresee(1, 400, 1)", race.foresee(1, 400, 1), 0);
        checks.same("foresee(0, 1, 2)", race.foresee(0, 1, 2), 1000);
        checks.same("the race after it", Checks.everything(race), before);
        race.order(0, 10, 10);
        checks.same("foresee(0, 3, 2)", race.foresee(0, 3, 2), 904);
        checks.badIndex(race, "foresee(-1, 1, 0)", () -> race.foresee(-1, 1, 0));
        checks.badIndex(race, "foresee(2, 0, 0)", () -> race.foresee(2, 0, 0));
        checks.badIndex(race, "foresee(0, 0, 3)", () -> race.foresee(0, 0, 3));
        checks.badIndex(race, "foresee(0, 1, -1)", () -> race.foresee(0, 1, -1));
        checks.badArgument(race, "foresee(0, 0, 0)", () -> race.foresee(0, 0, 0));
        checks.badArgument(race, "foresee(0, 401, 2)", () -> race.foresee(0, 401, 2));
        checks.badArgument(race, "foresee(0, -1, 1)", () -> race.foresee(0, -1, 1));
    }

    /* Both end at another tick, the one who ends earlier having the greater number. */
    private static void foreseenEnds(Checks checks) {
        checks.begin("promise 15, foresee, ends");
        SledgeRace race = new SledgeRace();
        race.setLength(100);
        race.addTeam(20, 10, 8);
        race.addTeam(20, 10, 8);
        race.setCrew(0, 9, 20, 3, 400);
        race.setCrew(1, 9, 20, 3, 400);
        checks.same("rank of 0, alike", race.foresee(0, 100, 1), 0);
        checks.same("rank of 1, alike", race.foresee(1, 100, 1), 1);
        race.order(0, 0, 10);
        race.run(2);
        race.order(0, 5, 10);
        checks.same("rank of 0", race.foresee(0, 100, 1), 1);
        checks.same("rank of 1", race.foresee(1, 100, 1), 0);
    }

    /* Two rollers are left behind at 1; so the runners and the gap tell how heavy the sledge is. */
    private static void foreseenRunners(Checks checks) {
        checks.begin("promise 15, foresee, runners");
        for (int runners = 1; runners <= 3; runners++) {
            for (int gap = 1; gap <= 40; gap += 13) {
                SledgeRace race = new SledgeRace();
                race.addTeam(20, 90, 8);
                race.setCrew(0, 9, 10, runners, 400);
                race.order(0, 5, gap);
                int seen = race.foresee(0, 100, 0);
                race.run(100);
                checks.same("foresee(0, 100, 0)", seen, race.team(0, 0));
            }
        }
    }

    private static void foreseenIsWhatComes(Checks checks) {
        checks.begin("promise 15, foresee, what comes then");
        for (int ticks = 1; ticks <= 400; ticks += 19) {
            SledgeRace race = mixedRace();
            race.run(ticks % 50 + 1);
            int[] seen = new int[9];
            for (int i = 0; i < seen.length; i++) {
                seen[i] = race.foresee(i / 3, ticks, i % 3);
            }
            race.run(ticks);
            for (int i = 0; i < seen.length; i++) {
                int team = i / 3;
                int came = i % 3 == 0 ? race.team(team, 0) : race.team(team, 1);
                if (i % 3 == 1) {
                    came = rankOf(race, team);
                }
                checks.same("foresee(" + team + ", " + ticks + ", " + i % 3 + ")", seen[i], came);
            }
        }
    }

    private static SledgeRace mixedRace() {
        SledgeRace race = new SledgeRace();
        race.setLength(150);
        race.lay(20, 1, 5);
        race.lay(60, -1, 1);
        race.addTeam(30, 20, 5);
        race.addTeam(30, 20, 5);
        race.addTeam(50, 40, 8);
        race.setCrew(0, 5, 9, 2, 150);
        race.setCrew(1, 9, 10, 2, 110);
        race.setCrew(2, 9, 10, 3, 250);
        race.order(0, 7, 6);
        race.order(2, 9, 12);
        return race;
    }

    private static int rankOf(SledgeRace race, int team) {
        int rank = 0;
        while (race.ranked(rank) != team) {
            rank++;
        }
        return rank;
    }

    private static void advise(Checks checks) {
        checks.begin("promise 16, advise");
        SledgeRace race = new SledgeRace();
        race.setLength(100);
        race.addTeam(40, 30, 4);
        race.addTeam(40, 30, 4);
        race.addTeam(40, 30, 4);
        race.addTeam(20, 10, 8);
        race.setCrew(1, 4, 10, 1, 100);
        race.setCrew(2, 9, 20, 1, 400);
        race.setCrew(3, 9, 20, 3, 400);
        String before = Checks.everything(race);
        checks.same("advise(0, 1)", race.advise(0, 1), 10);
        checks.same("advise(1, 1), as the rope holds", race.advise(1, 1), 8);
        checks.same("advise(2, 1), the smallest of several", race.advise(2, 1), 3);
        checks.same("the race after it", Checks.everything(race), before);
        race.order(1, 10, 10);
        race.run(1);
        checks.same("advise(1, 14), as it knots", race.advise(1, 14), 0);
        checks.same("advise(1, 15), as it has knotted", race.advise(1, 15), 7);
        race.run(8);
        checks.same("advise(3, 200), at the end", race.advise(3, 200), 0);
        checks.badIndex(race, "advise(-1, 1)", () -> race.advise(-1, 1));
        checks.badIndex(race, "advise(4, 0)", () -> race.advise(4, 0));
        checks.badArgument(race, "advise(0, 0)", () -> race.advise(0, 0));
        checks.badArgument(race, "advise(0, 201)", () -> race.advise(0, 201));
        bestOfEleven(checks);
    }

    private static void bestOfEleven(Checks checks) {
        for (int ticks = 1; ticks <= 200; ticks += 13) {
            for (int team = 0; team < 3; team++) {
                int best = 0;
                int farthest = -1;
                for (int effort = 0; effort <= 10; effort++) {
                    SledgeRace race = mixedRace();
                    race.run(10);
                    race.order(team, effort, race.team(team, 10));
                    race.run(ticks);
                    if (race.team(team, 0) > farthest) {
                        farthest = race.team(team, 0);
                        best = effort;
                    }
                }
                SledgeRace race = mixedRace();
                race.run(10);
                checks.same("advise(" + team + ", " + ticks + ")", race.advise(team, ticks), best);
            }
        }
    }

    private static void mean(Checks checks) {
        checks.begin("promise 17, mean");
        SledgeRace race = new SledgeRace();
        checks.same("mean() without teams", race.mean(), 0.0);
        race.addTeam(40, 30, 4);
        race.addTeam(40, 30, 4);
        race.addTeam(40, 30, 4);
        checks.same("mean() at first", race.mean(), 0.0);
        race.setCrew(1, 9, 20, 1, 400);
        race.order(2, 0, 10);
        race.run(1);
        checks.same("mean() of 4, 12 and 0", race.mean(), 16.0 / 3.0);
        race.restart();
        checks.same("mean() after restart", race.mean(), 0.0);
        SledgeRace alone = new SledgeRace();
        alone.addTeam(40, 30, 4);
        alone.run(5);
        checks.same("mean() of 20", alone.mean(), 20.0);
    }

    private static void digest(Checks checks) {
        checks.begin("promise 18, digest");
        SledgeRace empty = new SledgeRace();
        long d = 461;
        for (int x : new int[] {0, 0, 500, 1, 0, 0}) {
            d = d * 31 + x;
        }
        checks.same("digest() without teams", empty.digest(), d);
        for (int ticks = 1; ticks <= 300; ticks += 5) {
            SledgeRace race = mixedRace();
            race.run(ticks);
            checks.same("digest() at " + ticks, race.digest(), reckoned(race));
        }
    }

    private static long reckoned(SledgeRace race) {
        long d = 461;
        for (int what = 0; what < 6; what++) {
            d = d * 31 + race.count(what);
        }
        int[] rollers = {5, 5, 8};
        for (int team = 0; team < 3; team++) {
            for (int what = 0; what < 12; what++) {
                d = d * 31 + race.team(team, what);
            }
            for (int k = 0; k < rollers[team]; k++) {
                int asked = team;
                int index = k;
                String place = Checks.outcome(() -> race.roller(asked, index));
                d = d * 31 + (place.startsWith("throws") ? -9999 : Integer.parseInt(place));
            }
        }
        for (int rank = 0; rank < 3; rank++) {
            d = d * 31 + race.ranked(rank);
        }
        return d;
    }
}

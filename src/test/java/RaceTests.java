/** Promises 9 to 14: the race, and what is told of it. */
final class RaceTests {
    static void check(Checks checks) {
        restart(checks);
        count(checks);
        team(checks);
        roller(checks);
        next(checks);
        ranked(checks);
    }

    /** A race in which one team comes to the end at 9, one breaks ropes, one goes slowly. */
    private static SledgeRace threeTeams() {
        SledgeRace race = new SledgeRace();
        race.setLength(100);
        race.addTeam(20, 10, 8);
        race.addTeam(40, 30, 4);
        race.addTeam(40, 30, 4);
        race.setCrew(0, 9, 20, 3, 400);
        race.setCrew(1, 4, 10, 2, 59);
        return race;
    }

    private static void restart(Checks checks) {
        checks.begin("promise 9, restart");
        SledgeRace race = threeTeams();
        String first = Checks.everything(race);
        checks.same("restart() at first", race.restart(), 3);
        checks.same("the race", Checks.everything(race), first);
        race.run(300);
        checks.same("ropes that broke", race.count(5) > 0 ? 1 : 0, 1);
        checks.same("restart()", race.restart(), 3);
        checks.same("the race", Checks.everything(race), first);
        race.run(7);
        race.order(2, 8, 33);
        race.restart();
        checks.same("tick", race.count(0), 0);
        checks.same("effort", race.team(2, 9), 8);
        checks.same("gap", race.team(2, 10), 33);
        checks.same("way", race.team(2, 11), 0);
        checks.same("carried", race.team(2, 7), 0);
        checks.same("rope", race.team(1, 2), 59);
        checks.same("length", race.count(2), 100);
        race.order(2, 5, 10);
        SledgeRace fresh = threeTeams();
        for (int ticks = 1; ticks <= 40; ticks += 3) {
            race.run(ticks);
            fresh.run(ticks);
            checks.same("digest()", race.digest(), fresh.digest());
        }
    }

    private static void count(Checks checks) {
        checks.begin("promise 10, count");
        SledgeRace race = threeTeams();
        race.lay(30, 0, 1);
        race.run(16);
        int[] due = {16, 3, 100, 2, 1, 2};
        for (int what = 0; what < due.length; what++) {
            checks.same("count(" + what + ")", race.count(what), due[what]);
        }
        checks.badIndex(race, "count(-1)", () -> race.count(-1));
        checks.badIndex(race, "count(6)", () -> race.count(6));
        checks.badIndex(race, "count(max)", () -> race.count(Integer.MAX_VALUE));
    }

    private static void team(Checks checks) {
        checks.begin("promise 11, team");
        SledgeRace race = threeTeams();
        race.run(12);
        // Team 2 goes as the one of TickTests: its roller 2 is carried, roller 3 lies ahead.
        int[] due = {34, 1000, 200, 0, 2, 0, 1, 1, -1, 5, 10, 2};
        for (int what = 0; what < due.length; what++) {
            checks.same("team(2, " + what + ")", race.team(2, what), due[what]);
        }
        int[] knotting = {0, 1000, 54, 3, 4, 0, 0, 0, -1, 5, 10, 0};
        for (int what = 0; what < knotting.length; what++) {
            checks.same("team(1, " + what + ")", race.team(1, what), knotting[what]);
        }
        int[] ended = {108, 1000, 400, 0};
        for (int what = 0; what < ended.length; what++) {
            checks.same("team(0, " + what + ")", race.team(0, what), ended[what]);
        }
        checks.same("team(0, 8)", race.team(0, 8), 9);
        checks.same("team(0, 11)", race.team(0, 11), 12);
        checks.badIndex(race, "team(-1, 0)", () -> race.team(-1, 0));
        checks.badIndex(race, "team(3, 0)", () -> race.team(3, 0));
        checks.badIndex(race, "team(6, 0)", () -> race.team(6, 0));
        checks.badIndex(race, "team(0, -1)", () -> race.team(0, -1));
        checks.badIndex(race, "team(0, 12)", () -> race.team(0, 12));
        checks.badIndex(race, "team(3, 12)", () -> race.team(3, 12));
    }

    private static void roller(Checks checks) {
        checks.begin("promise 12, roller");
        SledgeRace race = threeTeams();
        checks.same("roller(0, 7)", race.roller(0, 7), -17);
        checks.same("roller(2, 3)", race.roller(2, 3), -32);
        checks.badIndex(race, "roller(2, 4)", () -> race.roller(2, 4));
        checks.badIndex(race, "roller(2, -1)", () -> race.roller(2, -1));
        checks.badIndex(race, "roller(0, 8)", () -> race.roller(0, 8));
        checks.badIndex(race, "roller(3, 0)", () -> race.roller(3, 0));
        checks.badIndex(race, "roller(-1, 0)", () -> race.roller(-1, 0));
        race.run(5);
        checks.badState(race, "roller(2, 3), carried", () -> race.roller(2, 3));
        checks.same("roller(2, 2)", race.roller(2, 2), -14);
    }

    private static void next(Checks checks) {
        checks.begin("promise 13, next");
        SledgeRace race = threeTeams();
        checks.same("next(2, 0)", race.next(2, 0), 60);
        checks.same("next(2, 1)", race.next(2, 1), 24);
        checks.same("next(2, 2)", race.next(2, 2), 4);
        checks.same("next(0, 2), at most 12", race.next(0, 2), 12);
        checks.same("next(1, 0), though the rope would break", race.next(1, 0), 60);
        checks.same("next(1, 2), though the rope would break", race.next(1, 2), 4);
        race.run(2);
        checks.same("next(1, 2), though it knots", race.next(1, 2), 4);
        race.order(1, 2, 10);
        checks.same("next(1, 0) with the effort 2", race.next(1, 0), 24);
        checks.same("next(1, 2) with the effort 2", race.next(1, 2), 0);
        race.order(1, 1, 10);
        checks.same("next(1, 2), at least 0", race.next(1, 2), 0);
        race.run(10);
        race.order(0, 1, 10);
        checks.same("next(0, 0), though it is at the end", race.next(0, 0), 54);
        nextAtTheEnd(checks);
        checks.badIndex(race, "next(-1, 0)", () -> race.next(-1, 0));
        checks.badIndex(race, "next(3, 0)", () -> race.next(3, 0));
        checks.badIndex(race, "next(0, -1)", () -> race.next(0, -1));
        checks.badIndex(race, "next(0, 3)", () -> race.next(0, 3));
        // 9 * 20 * 10 * 1494 / 5000 = 537.84
        SledgeRace tired = new SledgeRace();
        tired.addTeam(40, 30, 4);
        tired.setCrew(0, 9, 20, 1, 400);
        tired.order(0, 7, 10);
        tired.run(1);
        tired.order(0, 10, 10);
        checks.same("pull with the breath 994, cut", tired.next(0, 0), 537);
        SledgeRace cut = new SledgeRace();
        cut.addTeam(40, 25, 4);
        checks.same("drag, cut for each roller", cut.next(0, 1), 70 - 4 * 12);
        cut.addTeam(40, 30, 8);
        checks.same("drag with 8 rollers, of which 4 count", cut.next(1, 1), 24);
        cut.addTeam(40, 30, 3);
        cut.lay(0, -1, 0);
        checks.same("drag, at least a tenth", cut.next(2, 1), 3);
        cut.lay(0, -5, 9);
        // 30 * (20 - 50 + 36) / 10 = 18, less 3 * 6
        checks.same("drag of soft turf downwards", cut.next(2, 1), 3);
        cut.lay(0, -4, 9);
        checks.same("drag of soft turf less steep", cut.next(2, 1), 48 - 18);
        cut.addTeam(40, 99, 3);
        cut.lay(0, -5, 0);
        checks.same("drag of a heavy sledge, at least a tenth", cut.next(3, 1), 9);
    }

    /* It is told as if it had not come to the end: of the ground and of the rollers as they are there. */
    private static void nextAtTheEnd(Checks checks) {
        SledgeRace race = new SledgeRace();
        race.setLength(100);
        race.addTeam(20, 10, 2);
        race.setCrew(0, 9, 20, 1, 400);
        race.order(0, 5, 40);
        // Roller 1 is left behind at 2 and laid (24 + 40 + 1) / 12 + 2 = 7 ticks later, roller 0 at 3.
        checks.same("run(9)", race.run(9), 1);
        checks.same("under at the end", race.team(0, 4), 0);
        checks.same("drag at the end", race.next(0, 1), 56);
        checks.same("way at the end", race.next(0, 2), 12);
        race.lay(100, 5, 9);
        race.order(0, 4, 40);
        checks.same("pull at the end", race.next(0, 0), 216);
        // 10 * (20 + 50 + 36) / 10 = 106, twice
        checks.same("drag at the end, up a slope", race.next(0, 1), 212);
        checks.same("way at the end, up a slope", race.next(0, 2), 1);
        race.run(1);
        checks.same("front, which stays", race.team(0, 0), 108);
        checks.same("way of its latest tick, which stays", race.team(0, 11), 12);
    }

    private static void ranked(Checks checks) {
        checks.begin("promise 14, ranked");
        SledgeRace race = new SledgeRace();
        race.setLength(100);
        for (int i = 0; i < 5; i++) {
            race.addTeam(20, 10, 8);
        }
        ranks(checks, race, 0, 1, 2, 3, 4);
        // Fast ones are 1, 3 and 4; 4 starts late, being told to pull only after 3 ticks.
        race.setCrew(1, 9, 20, 3, 400);
        race.setCrew(3, 9, 20, 3, 400);
        race.setCrew(4, 9, 20, 3, 400);
        race.order(4, 0, 10);
        race.order(0, 0, 10);
        race.order(2, 1, 10);
        race.run(3);
        ranks(checks, race, 1, 3, 2, 0, 4);
        race.order(4, 5, 10);
        race.run(6);
        checks.same("ends", race.team(1, 8), race.team(3, 8));
        ranks(checks, race, 1, 3, 4, 2, 0);
        race.lay(0, -5, 0);
        race.run(3);
        checks.same("end of 4", race.team(4, 8), 12);
        ranks(checks, race, 1, 3, 4, 2, 0);
        checks.badIndex(race, "ranked(-1)", () -> race.ranked(-1));
        checks.badIndex(race, "ranked(5)", () -> race.ranked(5));
        checks.badIndex(race, "ranked(6)", () -> race.ranked(6));
        endedOverFarther(checks);
    }

    /* One who ended earlier is ahead of one who ended farther on. */
    private static void endedOverFarther(Checks checks) {
        SledgeRace race = new SledgeRace();
        race.setLength(102);
        race.addTeam(20, 10, 8);
        race.addTeam(20, 10, 8);
        race.setCrew(0, 9, 20, 3, 400);
        race.setCrew(1, 9, 20, 3, 400);
        race.order(0, 0, 10);
        race.run(1);
        race.order(0, 5, 10);
        race.order(1, 5, 10);
        race.run(8);
        race.lay(0, 5, 9);
        race.lay(96, -5, 0);
        race.run(30);
        checks.same("end of 0", race.team(0, 8), 10);
        checks.same("end of 1", race.team(1, 8), 9);
        ranks(checks, race, 1, 0);
    }

    private static void ranks(Checks checks, SledgeRace race, int... due) {
        for (int rank = 0; rank < due.length; rank++) {
            checks.same("ranked(" + rank + ") at " + race.count(0), race.ranked(rank), due[rank]);
        }
    }
}

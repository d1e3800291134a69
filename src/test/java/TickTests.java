/** Promise 8: what goes on in the ticks of run(), reckoned by hand. */
final class TickTests {
    static void check(Checks checks) {
        refusals(checks);
        rollersBehind(checks);
        gapAsItIsThen(checks);
        fewRollers(checks);
        rollerAtTheFront(checks);
        threeRunners(checks);
        oneRunner(checks);
        ropeThatHolds(checks);
        ropeThatBreaks(checks);
        weakestRope(checks);
        knottingStopsRunners(checks);
        breath(checks);
        groundUnderTheFront(checks);
        theEnd(checks);
        nothingChangesAtTheEnd(checks);
        eachForItself(checks);
    }

    private static SledgeRace raceOf(int length, int weight, int rollers) {
        SledgeRace race = new SledgeRace();
        race.addTeam(length, weight, rollers);
        return race;
    }

    private static void places(Checks checks, SledgeRace race, String when, int... due) {
        for (int k = 0; k < due.length; k++) {
            checks.same("roller " + k + " " + when, race.roller(0, k), due[k]);
        }
    }

    private static void refusals(Checks checks) {
        checks.begin("promise 8, run");
        SledgeRace empty = new SledgeRace();
        checks.badState(empty, "run(1) without teams", () -> empty.run(1));
        checks.badState(empty, "run(500) without teams", () -> empty.run(500));
        checks.badArgument(empty, "run(0) without teams", () -> empty.run(0));
        SledgeRace race = raceOf(40, 30, 4);
        checks.badArgument(race, "run(0)", () -> race.run(0));
        checks.badArgument(race, "run(-1)", () -> race.run(-1));
        checks.badArgument(race, "run(501)", () -> race.run(501));
        checks.same("run(500)", race.run(500), 0);
        checks.same("tick", race.count(0), 500);
    }

    private static void rollersBehind(Checks checks) {
        checks.begin("promise 8, a roller is carried");
        SledgeRace race = raceOf(40, 30, 4);
        race.run(1);
        checks.same("front at 1", race.team(0, 0), 4);
        checks.same("way at 1", race.team(0, 11), 4);
        places(checks, race, "at 1", -6, -14, -22, -30);
        race.run(3);
        places(checks, race, "at 4", 0, -8, -16, -24);
        checks.same("under at 4, one at the very back", race.team(0, 4), 4);
        race.run(1);
        checks.same("front at 5", race.team(0, 0), 20);
        places(checks, race, "at 5", 2, -6, -14);
        checks.same("carried at 5", race.team(0, 7), 1);
        checks.same("drag at 5", race.next(0, 1), 39);
        race.run(5);
        checks.same("front at 10", race.team(0, 0), 30);
        checks.same("carried at 10", race.team(0, 7), 1);
        race.run(1);
        checks.same("front at 11", race.team(0, 0), 32);
        places(checks, race, "at 11", 8, 0, -8, 42);
        checks.same("ahead at 11", race.team(0, 6), 1);
        race.run(1);
        checks.same("carried at 12", race.team(0, 7), 1);
        checks.badState(race, "roller 2 at 12", () -> race.roller(0, 2));
        checks.same("roller 3 at 12", race.roller(0, 3), 42);
    }

    private static void gapAsItIsThen(Checks checks) {
        checks.begin("promise 8, the gap as it is then");
        SledgeRace race = raceOf(40, 30, 4);
        race.run(5);
        race.order(0, 5, 20);
        race.run(5);
        checks.same("carried at 10", race.team(0, 7), 1);
        race.run(1);
        checks.same("roller 3 at 11", race.roller(0, 3), 52);
    }

    private static void fewRollers(Checks checks) {
        checks.begin("promise 8, few rollers");
        SledgeRace race = raceOf(40, 30, 2);
        race.setCrew(0, 9, 20, 1, 400);
        checks.same("drag with 2", race.next(0, 1), 54);
        race.run(3);
        checks.same("front at 3", race.team(0, 0), 36);
        checks.same("roller 0 at 3", race.roller(0, 0), 5);
        checks.same("drag with 1", race.next(0, 1), 138);
        race.run(2);
        checks.same("drag with 0", race.next(0, 1), 168);
        checks.same("behind at 5", race.team(0, 5), 1);
        checks.same("carried at 5", race.team(0, 7), 1);
        race.run(4);
        places(checks, race, "at 9", 17, 118);
        race.run(1);
        checks.same("roller 1 at 10, where it was ahead of the sledge", race.roller(0, 1), 118);
        checks.same("under at 10", race.team(0, 4), 1);
        checks.same("carried at 10", race.team(0, 7), 1);
        race.run(1);
        checks.same("front at 11", race.team(0, 0), 132);
        checks.same("roller 1 at 11", race.roller(0, 1), 124);
        // Roller 0 was taken at 10 for (130 - 17) / 12 + 2 = 11 ticks.
        race.run(9);
        // Roller 1 rolled on until 17, when the back of the sledge, at 164, had left it behind.
        checks.same("roller 1 at 20", race.roller(0, 1), 160);
        checks.badState(race, "roller 0 at 20", () -> race.roller(0, 0));
        race.run(1);
        checks.same("roller 0 at 21", race.roller(0, 0), 21 * 12 + 10);
    }

    private static void rollerAtTheFront(Checks checks) {
        checks.begin("promise 8, a roller at the very front");
        SledgeRace race = raceOf(40, 30, 2);
        race.setCrew(0, 9, 20, 1, 400);
        race.order(0, 5, 12);
        race.run(9);
        checks.same("roller 1 at 9", race.roller(0, 1), 120);
        checks.same("ahead at 9", race.team(0, 6), 1);
        race.run(1);
        checks.same("front at 10", race.team(0, 0), 120);
        checks.same("ahead at 10", race.team(0, 6), 0);
        checks.same("under at 10", race.team(0, 4), 1);
        race.run(1);
        checks.same("roller 1 at 11", race.roller(0, 1), 126);
    }

    private static void oneRunner(Checks checks) {
        checks.begin("promise 8, one runner, as at first");
        SledgeRace race = raceOf(20, 10, 8);
        race.run(1);
        places(checks, race, "at 1", 4, 2, 0, -2, -5, -7, -9);
        checks.same("carried at 1", race.team(0, 7), 1);
        checks.same("behind at 1", race.team(0, 5), 1);
    }

    private static void threeRunners(Checks checks) {
        checks.begin("promise 8, three runners");
        SledgeRace race = raceOf(20, 10, 8);
        race.setCrew(0, 9, 20, 3, 400);
        race.run(1);
        places(checks, race, "at 1", 4, 2, 0, -2, -5, -7);
        checks.same("carried at 1", race.team(0, 7), 2);
        race.run(1);
        places(checks, race, "at 2", 10, 8, 6, 4, 1);
        checks.same("carried at 2", race.team(0, 7), 3);
        checks.same("behind at 2", race.team(0, 5), 1);
        race.run(3);
        checks.same("roller 6 at 5", race.roller(0, 6), 70);
        checks.same("roller 7 at 5", race.roller(0, 7), 70);
        checks.same("carried at 5", race.team(0, 7), 1);
        race.run(1);
        checks.same("roller 5 at 6", race.roller(0, 5), 82);
        checks.badState(race, "roller 4 at 6", () -> race.roller(0, 4));
        checks.badState(race, "roller 3 at 6", () -> race.roller(0, 3));
        places(checks, race, "at 6", 22, 14, 12);
        race.run(8);
        checks.same("roller 4 at 14", race.roller(0, 4), 178);
        checks.same("roller 3 at 14", race.roller(0, 3), 178);
        race.run(2);
        checks.badState(race, "roller 6 at 16, the smaller number of two", () -> race.roller(0, 6));
        checks.same("roller 7 at 16", race.roller(0, 7), 94);
    }

    private static void ropeThatHolds(Checks checks) {
        checks.begin("promise 8, a rope as strong as the pull");
        SledgeRace race = raceOf(40, 30, 4);
        race.setCrew(0, 4, 10, 1, 60);
        race.run(1);
        checks.same("front", race.team(0, 0), 4);
        checks.same("rope", race.team(0, 2), 60);
        checks.same("ropes that broke", race.count(5), 0);
    }

    private static void ropeThatBreaks(Checks checks) {
        checks.begin("promise 8, a rope breaks");
        SledgeRace race = raceOf(40, 30, 4);
        race.setCrew(0, 4, 10, 1, 59);
        race.run(1);
        checks.same("front", race.team(0, 0), 0);
        checks.same("way", race.team(0, 11), 0);
        checks.same("rope", race.team(0, 2), 54);
        checks.same("knots", race.team(0, 3), 14);
        checks.same("ropes that broke", race.count(5), 1);
        race.run(13);
        checks.same("knots at 14", race.team(0, 3), 1);
        race.run(1);
        checks.same("knots at 15", race.team(0, 3), 0);
        checks.same("rope at 15", race.team(0, 2), 54);
        race.run(1);
        checks.same("rope at 16", race.team(0, 2), 49);
        checks.same("knots at 16", race.team(0, 3), 14);
        checks.same("ropes that broke at 16", race.count(5), 2);
        race.order(0, 4, 10);
        race.run(14);
        checks.same("front at 30", race.team(0, 0), 0);
        race.run(1);
        // 4 * 10 * 4 * 1500 / 5000 = 48, of the rope 49; (48 - 24) * 4 / 30 = 3
        checks.same("front at 31", race.team(0, 0), 3);
    }

    private static void weakestRope(Checks checks) {
        checks.begin("promise 8, the weakest rope");
        SledgeRace race = raceOf(40, 30, 4);
        race.setCrew(0, 9, 20, 1, 20);
        int[] ropes = {18, 17, 16, 15, 14, 13, 12, 11, 10, 10, 10};
        for (int i = 0; i < ropes.length; i++) {
            race.run(15);
            checks.same("rope after " + (i + 1), race.team(0, 2), ropes[i]);
            checks.same("ropes that broke", race.count(5), i + 1);
        }
        checks.same("front", race.team(0, 0), 0);
    }

    private static void knottingStopsRunners(Checks checks) {
        checks.begin("promise 8, knotting");
        SledgeRace race = raceOf(40, 30, 4);
        race.setCrew(0, 4, 10, 1, 100);
        race.run(5);
        checks.same("way at 5", race.team(0, 11), 4);
        race.order(0, 10, 10);
        race.run(1);
        checks.same("knots at 6", race.team(0, 3), 14);
        checks.same("way at 6", race.team(0, 11), 0);
        race.order(0, 5, 10);
        race.run(14);
        checks.same("front at 20", race.team(0, 0), 20);
        race.run(5);
        checks.same("carried at 25", race.team(0, 7), 1);
        race.run(1);
        places(checks, race, "at 26", 8, 0, -8, 42);
    }

    private static void breath(Checks checks) {
        checks.begin("promise 8, breath");
        SledgeRace race = raceOf(40, 30, 4);
        race.setCrew(0, 1, 1, 1, 200);
        race.order(0, 10, 10);
        race.run(1);
        checks.same("breath at 1", race.team(0, 1), 968);
        race.run(30);
        checks.same("breath at 31", race.team(0, 1), 8);
        race.run(1);
        checks.same("breath at 32", race.team(0, 1), 0);
        int[] gains = {18, 18, 16, 14, 10, 6, 0, -6, -14, -22};
        for (int effort = 0; effort < gains.length; effort++) {
            int before = race.team(0, 1);
            race.order(0, effort, 10);
            race.run(1);
            checks.same("gain of the effort " + effort, race.team(0, 1) - before, gains[effort]);
        }
        race.order(0, 0, 10);
        race.run(100);
        checks.same("breath at most", race.team(0, 1), 1000);
        pullAheadOfBreath(checks);
        checks.begin("promise 8, breath of those who knot");
        SledgeRace knots = raceOf(40, 30, 4);
        knots.setCrew(0, 4, 10, 1, 100);
        knots.order(0, 8, 10);
        knots.run(3);
        checks.same("breath at 3", knots.team(0, 1), 958);
        knots.order(0, 10, 10);
        knots.run(1);
        checks.same("rope at 4", knots.team(0, 2), 90);
        checks.same("breath at 4", knots.team(0, 1), 976);
        knots.run(1);
        checks.same("breath at 5", knots.team(0, 1), 994);
    }

    /* Step 1 is done with the breath that was left by the tick ahead of it. */
    private static void pullAheadOfBreath(Checks checks) {
        SledgeRace race = raceOf(20, 10, 8);
        race.setCrew(0, 6, 1, 1, 20);
        race.order(0, 10, 10);
        race.run(1);
        // 6 * 10 * 1500 / 5000 = 18, (18 - 8) * 4 / 10 = 4
        checks.same("way at 1", race.team(0, 11), 4);
        checks.same("breath at 1", race.team(0, 1), 968);
        race.run(1);
        // 6 * 10 * 1468 / 5000 = 17, (17 - 8) * 4 / 10 = 3
        checks.same("way at 2", race.team(0, 11), 3);
        // 7 * 10 * 1500 / 5000 = 21 breaks the rope 20; with the breath 968 it would be 20 and hold.
        SledgeRace breaks = raceOf(20, 10, 8);
        breaks.setCrew(0, 7, 1, 1, 20);
        breaks.order(0, 10, 10);
        breaks.run(1);
        checks.same("rope at 1", breaks.team(0, 2), 18);
        checks.same("way at 1", breaks.team(0, 11), 0);
    }

    private static void groundUnderTheFront(Checks checks) {
        checks.begin("promise 8, ground");
        SledgeRace race = raceOf(40, 30, 4);
        race.lay(4, 3, 2);
        race.lay(5, 0, 9);
        race.run(1);
        checks.same("drag at the place 4", race.next(0, 1), 174 - 60);
        race.run(20);
        checks.same("front, where the drag is too great", race.team(0, 0), 4);
        checks.same("way there", race.team(0, 11), 0);
        race.lay(4, -5, 0);
        checks.same("least drag", race.next(0, 1), 3);
        // (60 - 3) * 4 / 30 = 7
        race.run(1);
        checks.same("front at 22", race.team(0, 0), 11);
        checks.same("drag at softness 9", race.next(0, 1), 168 - 4 * 6);
    }

    private static void theEnd(Checks checks) {
        checks.begin("promise 8, the end");
        int[] lengths = {100, 107, 108, 109};
        int[] ends = {9, 9, 9, 10};
        for (int i = 0; i < lengths.length; i++) {
            SledgeRace race = new SledgeRace();
            race.setLength(lengths[i]);
            race.addTeam(20, 10, 8);
            race.addTeam(40, 30, 4);
            race.setCrew(0, 9, 20, 3, 400);
            checks.same("run", race.run(ends[i] - 1), 0);
            checks.same("end ahead of it", race.team(0, 8), -1);
            checks.same("run(1)", race.run(1), 1);
            checks.same("end", race.team(0, 8), ends[i]);
            checks.same("front", race.team(0, 0), 12 * ends[i]);
        }
        SledgeRace race = new SledgeRace();
        race.setLength(100);
        race.addTeam(20, 10, 8);
        race.setCrew(0, 9, 20, 3, 400);
        race.order(0, 7, 10);
        race.run(9);
        int[] facts = new int[12];
        for (int what = 0; what < facts.length; what++) {
            facts[what] = race.team(0, what);
        }
        checks.same("way", facts[11], 12);
        checks.same("breath", facts[1], 1000 - 9 * 6);
        checks.same("run(500)", race.run(500), 1);
        checks.same("tick", race.count(0), 509);
        for (int what = 0; what < facts.length; what++) {
            checks.same("team(0, " + what + ")", race.team(0, what), facts[what]);
        }
        checks.same("order(0, 2, 3)", race.order(0, 2, 3), 7);
        checks.same("effort", race.team(0, 9), 2);
        checks.same("gap", race.team(0, 10), 3);
    }

    /* Loads are carried no farther, what lies behind is not taken, and new ground counts for nothing. */
    private static void nothingChangesAtTheEnd(Checks checks) {
        checks.begin("promise 8, nothing changes at the end");
        SledgeRace race = new SledgeRace();
        race.setLength(100);
        race.addTeam(20, 10, 8);
        race.setCrew(0, 9, 20, 2, 400);
        race.run(9);
        String places = placesOf(race);
        checks.same("carried at the end", race.team(0, 7) > 0 ? 1 : 0, 1);
        race.lay(100, 5, 9);
        race.order(0, 10, 40);
        race.run(500);
        checks.same("places", placesOf(race), places);
        checks.same("rope", race.team(0, 2), 400);
        checks.same("ropes that broke, though it would pull 540", race.count(5), 0);
        checks.same("end", race.team(0, 8), 9);
    }

    private static String placesOf(SledgeRace race) {
        StringBuilder text = new StringBuilder();
        for (int k = 0; k < 8; k++) {
            int index = k;
            text.append(' ').append(Checks.outcome(() -> race.roller(0, index)));
        }
        return text.toString();
    }

    /* No team changes another one: beside others each does as it does alone. */
    private static void eachForItself(Checks checks) {
        checks.begin("promise 8, each for itself");
        int[][] teams = {{20, 10, 8, 9, 20, 3, 400, 5, 10}, {40, 30, 4, 4, 10, 1, 59, 5, 10},
            {80, 99, 2, 9, 20, 2, 300, 10, 40}, {33, 21, 5, 3, 9, 2, 100, 7, 1}};
        SledgeRace together = new SledgeRace();
        for (int[] t : teams) {
            addTold(together, t);
        }
        together.run(77);
        for (int team = 0; team < teams.length; team++) {
            SledgeRace alone = new SledgeRace();
            addTold(alone, teams[team]);
            alone.run(77);
            for (int what = 0; what < 12; what++) {
                checks.same("team(" + team + ", " + what + ")", together.team(team, what), alone.team(0, what));
            }
            for (int k = 0; k < teams[team][2]; k++) {
                int number = team;
                int index = k;
                checks.same("roller(" + team + ", " + k + ")", Checks.outcome(() -> together.roller(number, index)),
                        Checks.outcome(() -> alone.roller(0, index)));
            }
        }
    }

    private static void addTold(SledgeRace race, int[] told) {
        int team = race.addTeam(told[0], told[1], told[2]);
        race.setCrew(team, told[3], told[4], told[5], told[6]);
        race.order(team, told[7], told[8]);
    }
}

/** Promises 1 and 5 to 7: a new race and its teams. */
final class TeamTests {
    static void check(Checks checks) {
        newRace(checks);
        addTeam(checks);
        setCrew(checks);
        order(checks);
    }

    private static void newRace(Checks checks) {
        checks.begin("promise 1, a new race");
        SledgeRace race = new SledgeRace();
        int[] counts = {0, 0, 500, 1, 0, 0};
        for (int what = 0; what < counts.length; what++) {
            checks.same("count(" + what + ")", race.count(what), counts[what]);
        }
        checks.same("mean()", race.mean(), 0.0);
        checks.same("restart()", race.restart(), 0);
        checks.badIndex(race, "team(0, 0)", () -> race.team(0, 0));
        checks.badIndex(race, "ranked(0)", () -> race.ranked(0));
        SledgeRace other = new SledgeRace();
        other.addTeam(40, 30, 4);
        other.lay(7, 1, 1);
        checks.same("teams, beside another race", race.count(1), 0);
        checks.same("stretches, beside another race", race.count(3), 1);
    }

    private static void addTeam(Checks checks) {
        checks.begin("promise 5, addTeam");
        SledgeRace race = new SledgeRace();
        checks.badArgument(race, "addTeam(19, 10, 2)", () -> race.addTeam(19, 10, 2));
        checks.badArgument(race, "addTeam(81, 10, 2)", () -> race.addTeam(81, 10, 2));
        checks.badArgument(race, "addTeam(20, 9, 2)", () -> race.addTeam(20, 9, 2));
        checks.badArgument(race, "addTeam(20, 100, 2)", () -> race.addTeam(20, 100, 2));
        checks.badArgument(race, "addTeam(20, 10, 1)", () -> race.addTeam(20, 10, 1));
        checks.badArgument(race, "addTeam(20, 10, 9)", () -> race.addTeam(20, 10, 9));
        checks.same("addTeam(20, 10, 2)", race.addTeam(20, 10, 2), 0);
        checks.same("addTeam(80, 99, 8)", race.addTeam(80, 99, 8), 1);
        // front, breath, rope, knots, under, behind, ahead, carried, end, effort, gap, way
        int[] facts = {0, 1000, 200, 0, 8, 0, 0, 0, -1, 5, 10, 0};
        for (int what = 0; what < facts.length; what++) {
            checks.same("team(1, " + what + ")", race.team(1, what), facts[what]);
        }
        int[] places = {-8, -17, -26, -35, -44, -53, -62, -71};
        for (int k = 0; k < places.length; k++) {
            checks.same("roller(1, " + k + ")", race.roller(1, k), places[k]);
        }
        checks.same("roller(0, 0)", race.roller(0, 0), -6);
        checks.same("roller(0, 1)", race.roller(0, 1), -13);
        race.run(1);
        checks.badState(race, "addTeam(40, 30, 4) in the race", () -> race.addTeam(40, 30, 4));
        checks.badArgument(race, "addTeam(40, 30, 9) in the race", () -> race.addTeam(40, 30, 9));
        race.restart();
        for (int number = 2; number < 6; number++) {
            checks.same("addTeam(40, 30, 4)", race.addTeam(40, 30, 4), number);
        }
        checks.badState(race, "addTeam(40, 30, 4) as the 7th", () -> race.addTeam(40, 30, 4));
        checks.badArgument(race, "addTeam(0, 30, 4) as the 7th", () -> race.addTeam(0, 30, 4));
        checks.same("count(1)", race.count(1), 6);
    }

    private static void setCrew(Checks checks) {
        checks.begin("promise 6, setCrew");
        SledgeRace race = new SledgeRace();
        checks.badIndex(race, "setCrew(0, 0, 0, 0, 0) without teams", () -> race.setCrew(0, 0, 0, 0, 0));
        race.addTeam(40, 30, 4);
        race.addTeam(40, 30, 4);
        checks.same("setCrew(0, 9, 20, 3, 400)", race.setCrew(0, 9, 20, 3, 400), 4);
        checks.same("rope", race.team(0, 2), 400);
        checks.same("pull", race.next(0, 0), 9 * 20 * 5 * 1500 / 5000);
        checks.same("setCrew(0, 1, 1, 1, 20)", race.setCrew(0, 1, 1, 1, 20), 9);
        checks.same("setCrew(0, 3, 7, 2, 250)", race.setCrew(0, 3, 7, 2, 250), 1);
        checks.same("pull", race.next(0, 0), 3 * 7 * 5 * 1500 / 5000);
        checks.same("rope of the other one", race.team(1, 2), 200);
        checks.same("pull of the other one", race.next(1, 0), 60);
        checks.badIndex(race, "setCrew(-1, 1, 1, 1, 20)", () -> race.setCrew(-1, 1, 1, 1, 20));
        checks.badIndex(race, "setCrew(2, 1, 1, 1, 20)", () -> race.setCrew(2, 1, 1, 1, 20));
        checks.badIndex(race, "setCrew(6, 0, 1, 1, 20)", () -> race.setCrew(6, 0, 1, 1, 20));
        int[][] wrong = {{0, 1, 1, 20}, {10, 1, 1, 20}, {1, 0, 1, 20}, {1, 21, 1, 20},
            {1, 1, 0, 20}, {1, 1, 4, 20}, {1, 1, 1, 19}, {1, 1, 1, 401}};
        for (int[] w : wrong) {
            checks.badArgument(race, "setCrew(0, " + w[0] + ", " + w[1] + ", " + w[2] + ", " + w[3] + ")",
                    () -> race.setCrew(0, w[0], w[1], w[2], w[3]));
        }
        race.run(1);
        checks.badState(race, "setCrew(0, 1, 1, 1, 20) in the race", () -> race.setCrew(0, 1, 1, 1, 20));
        checks.badArgument(race, "setCrew(0, 1, 1, 1, 19) in the race", () -> race.setCrew(0, 1, 1, 1, 19));
        checks.badIndex(race, "setCrew(2, 1, 1, 1, 19) in the race", () -> race.setCrew(2, 1, 1, 1, 19));
        race.restart();
        checks.same("setCrew(0, 2, 2, 2, 40) after restart", race.setCrew(0, 2, 2, 2, 40), 3);
    }

    private static void order(Checks checks) {
        checks.begin("promise 7, order");
        SledgeRace race = new SledgeRace();
        checks.badIndex(race, "order(0, 11, 0) without teams", () -> race.order(0, 11, 0));
        race.addTeam(40, 30, 4);
        race.addTeam(40, 30, 4);
        checks.same("order(0, 10, 40)", race.order(0, 10, 40), 5);
        checks.same("effort", race.team(0, 9), 10);
        checks.same("gap", race.team(0, 10), 40);
        checks.same("order(0, 0, 1)", race.order(0, 0, 1), 10);
        checks.same("order(0, 3, 12)", race.order(0, 3, 12), 0);
        checks.same("effort of the other one", race.team(1, 9), 5);
        checks.same("gap of the other one", race.team(1, 10), 10);
        checks.badIndex(race, "order(-1, 5, 5)", () -> race.order(-1, 5, 5));
        checks.badIndex(race, "order(2, 11, 5)", () -> race.order(2, 11, 5));
        checks.badArgument(race, "order(0, -1, 5)", () -> race.order(0, -1, 5));
        checks.badArgument(race, "order(0, 11, 5)", () -> race.order(0, 11, 5));
        checks.badArgument(race, "order(0, 5, 0)", () -> race.order(0, 5, 0));
        checks.badArgument(race, "order(0, 5, 41)", () -> race.order(0, 5, 41));
        race.run(1);
        checks.same("order(0, 6, 7) in the race", race.order(0, 6, 7), 3);
        // 4 * 10 * 6 * 1500 / 5000 = 72
        checks.same("pull after the order", race.next(0, 0), 72);
        race.restart();
        checks.same("effort after restart", race.team(0, 9), 6);
        checks.same("gap after restart", race.team(0, 10), 7);
    }
}

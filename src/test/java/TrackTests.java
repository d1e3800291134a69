/** Promises 2 to 4: the track. */
final class TrackTests {
    static void check(Checks checks) {
        setLength(checks);
        lay(checks);
        layTwelve(checks);
        ground(checks);
    }

    private static void setLength(Checks checks) {
        checks.begin("promise 2, setLength");
        SledgeRace race = new SledgeRace();
        checks.same("setLength(100)", race.setLength(100), 500);
        checks.same("count(2)", race.count(2), 100);
        checks.same("setLength(2000)", race.setLength(2000), 100);
        checks.same("setLength(777)", race.setLength(777), 2000);
        checks.badArgument(race, "setLength(99)", () -> race.setLength(99));
        checks.badArgument(race, "setLength(2001)", () -> race.setLength(2001));
        checks.badArgument(race, "setLength(0)", () -> race.setLength(0));
        checks.badArgument(race, "setLength(min)", () -> race.setLength(Integer.MIN_VALUE));
        checks.badArgument(race, "setLength(max)", () -> race.setLength(Integer.MAX_VALUE));
        race.addTeam(40, 30, 4);
        checks.same("setLength(400) with a team", race.setLength(400), 777);
        race.run(1);
        checks.badState(race, "setLength(400) in the race", () -> race.setLength(400));
        checks.badArgument(race, "setLength(99) in the race", () -> race.setLength(99));
        race.restart();
        checks.same("setLength(300) after restart", race.setLength(300), 400);
    }

    private static void lay(Checks checks) {
        checks.begin("promise 3, lay");
        SledgeRace race = new SledgeRace();
        checks.same("lay(0, -5, 0)", race.lay(0, -5, 0), 1);
        checks.same("lay(1999, 5, 9)", race.lay(1999, 5, 9), 2);
        checks.same("lay(50, 1, 3)", race.lay(50, 1, 3), 3);
        checks.same("lay(20, 2, 4)", race.lay(20, 2, 4), 4);
        checks.same("lay(50, 3, 5), again", race.lay(50, 3, 5), 4);
        checks.same("count(3)", race.count(3), 4);
        checks.same("slope at 50", race.ground(50, false), 3);
        checks.same("softness at 50", race.ground(50, true), 5);
        checks.same("slope at 49", race.ground(49, false), 2);
        checks.badArgument(race, "lay(-1, 0, 0)", () -> race.lay(-1, 0, 0));
        checks.badArgument(race, "lay(2000, 0, 0)", () -> race.lay(2000, 0, 0));
        checks.badArgument(race, "lay(1, -6, 0)", () -> race.lay(1, -6, 0));
        checks.badArgument(race, "lay(1, 6, 0)", () -> race.lay(1, 6, 0));
        checks.badArgument(race, "lay(1, 0, -1)", () -> race.lay(1, 0, -1));
        checks.badArgument(race, "lay(1, 0, 10)", () -> race.lay(1, 0, 10));
        race.addTeam(40, 30, 4);
        race.run(5);
        checks.same("lay(0, 4, 8) in the race", race.lay(0, 4, 8), 4);
        checks.same("slope at 0", race.ground(0, false), 4);
        race.restart();
        checks.same("stretches after restart", race.count(3), 4);
    }

    private static void layTwelve(Checks checks) {
        checks.begin("promise 3, lay, twelve stretches");
        SledgeRace race = new SledgeRace();
        for (int i = 1; i <= 11; i++) {
            checks.same("lay", race.lay(1200 - 100 * i, i % 6, i % 10), i + 1);
        }
        checks.badState(race, "lay(150, 0, 0) as the 13th", () -> race.lay(150, 0, 0));
        checks.badArgument(race, "lay(150, 0, 10) as the 13th", () -> race.lay(150, 0, 10));
        checks.badArgument(race, "lay(2000, 0, 0) as the 13th", () -> race.lay(2000, 0, 0));
        checks.same("lay(100, -4, 7) over one of 12", race.lay(100, -4, 7), 12);
        checks.same("lay(0, -3, 6) over the first of 12", race.lay(0, -3, 6), 12);
        checks.same("slope at 199", race.ground(199, false), -4);
        checks.same("softness at 99", race.ground(99, true), 6);
        checks.same("slope at 200", race.ground(200, false), 10 % 6);
        checks.same("slope at 1100", race.ground(1100, false), 1);
    }

    private static void ground(Checks checks) {
        checks.begin("promise 4, ground");
        SledgeRace race = new SledgeRace();
        checks.same("slope at 0", race.ground(0, false), 0);
        checks.same("softness at 0", race.ground(0, true), 2);
        checks.same("softness at 3000", race.ground(3000, true), 2);
        race.lay(300, -2, 9);
        race.lay(100, 4, 1);
        checks.same("softness at -100", race.ground(-100, true), 2);
        checks.same("slope at -1", race.ground(-1, false), 0);
        checks.same("slope at 99", race.ground(99, false), 0);
        checks.same("slope at 100", race.ground(100, false), 4);
        checks.same("softness at 100", race.ground(100, true), 1);
        checks.same("slope at 299", race.ground(299, false), 4);
        checks.same("slope at 300", race.ground(300, false), -2);
        checks.same("softness at 3000", race.ground(3000, true), 9);
        race.lay(1, 5, 5);
        checks.same("slope at 0, beside 1", race.ground(0, false), 0);
        checks.same("slope at 1", race.ground(1, false), 5);
        checks.badArgument(race, "ground(-101, true)", () -> race.ground(-101, true));
        checks.badArgument(race, "ground(-101, false)", () -> race.ground(-101, false));
        checks.badArgument(race, "ground(3001, true)", () -> race.ground(3001, true));
        checks.badArgument(race, "ground(3001, false)", () -> race.ground(3001, false));
    }
}

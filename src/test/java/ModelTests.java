import java.util.Random;

/** Promises 1 to 18: runs of calls, drawn from fixed seeds, answered by the class and by the model alike. */
final class ModelTests {
    private static final int RUNS = 600;
    /* Each call is followed by a digest(), and an object is good for 512 calls. */
    private static final int CALLS = 256;

    private final Random random;
    private final SledgeRace race = new SledgeRace();
    private final Model model = new Model();
    private final int teams;
    private final int calmness;
    /* In half of the runs crews are strong and tracks short, so that teams come to the end. */
    private final boolean isBrisk;
    private String call;
    private String got;
    private String want;

    private ModelTests(long seed) {
        random = new Random(seed);
        teams = random.nextInt(6) + 1;
        calmness = random.nextInt(30) + 4;
        isBrisk = seed % 2 == 0;
    }

    static void check(Checks checks) {
        for (int seed = 1; seed <= RUNS; seed++) {
            checks.begin("model, seed " + seed);
            new ModelTests(seed).race(checks);
        }
    }

    private void race(Checks checks) {
        for (int i = 0; i < CALLS; i++) {
            if (i < 20 || random.nextInt(60) == 0) {
                prepare();
            } else {
                go();
            }
            checks.same("call " + i + ": " + call, got, want);
            checks.same("digest() after call " + i + ": " + call, race.digest(), model.digest());
            if (!got.equals(want)) {
                return;
            }
        }
    }

    /** A number from least to most, the limits being drawn often, and now and then one outside. */
    private int draw(int least, int most) {
        int kind = random.nextInt(60);
        if (kind == 0) {
            return least - 1;
        }
        if (kind == 1) {
            return most + 1;
        }
        if (kind == 2) {
            return random.nextInt();
        }
        if (kind < 6) {
            return kind % 2 == 0 ? least : most;
        }
        return least + random.nextInt(most - least + 1);
    }

    private int drawTeam() {
        return draw(0, teams - 1);
    }

    private int drawTicks(int most) {
        return random.nextInt(4) > 0 ? draw(1, Math.min(most, calmness)) : draw(1, most);
    }

    private void prepare() {
        switch (random.nextInt(7)) {
            case 0 -> {
                int length = isBrisk || random.nextBoolean() ? draw(100, 300) : draw(100, 2000);
                told("setLength(" + length + ")", () -> race.setLength(length), () -> model.setLength(length));
            }
            case 1, 2 -> lay();
            case 3, 4 -> {
                int length = draw(20, 80);
                int weight = isBrisk ? draw(10, 40) : draw(10, 99);
                int rollers = draw(2, 8);
                told("addTeam(" + length + ", " + weight + ", " + rollers + ")",
                        () -> race.addTeam(length, weight, rollers), () -> model.addTeam(length, weight, rollers));
            }
            default -> setCrew();
        }
    }

    private void lay() {
        int from = random.nextBoolean() ? draw(0, 200) : draw(0, 1999);
        int slope = isBrisk ? draw(-2, 1) : draw(-5, 5);
        int softness = isBrisk ? draw(0, 4) : draw(0, 9);
        told("lay(" + from + ", " + slope + ", " + softness + ")",
                () -> race.lay(from, slope, softness), () -> model.lay(from, slope, softness));
    }

    private void setCrew() {
        int team = drawTeam();
        int pullers = isBrisk ? draw(4, 9) : draw(1, 9);
        int strength = isBrisk ? draw(8, 20) : draw(1, 20);
        int runners = draw(1, 3);
        int rope = isBrisk ? draw(100, 400) : draw(20, 400);
        told("setCrew(" + team + ", " + pullers + ", " + strength + ", " + runners + ", " + rope + ")",
                () -> race.setCrew(team, pullers, strength, runners, rope),
                () -> model.setCrew(team, pullers, strength, runners, rope));
    }

    private void go() {
        int team = drawTeam();
        switch (random.nextInt(16)) {
            case 0, 1, 2, 3 -> {
                int ticks = drawTicks(500);
                told("run(" + ticks + ")", () -> race.run(ticks), () -> model.run(ticks));
            }
            case 4, 5 -> {
                int effort = draw(0, 10);
                int gap = draw(1, 40);
                told("order(" + team + ", " + effort + ", " + gap + ")",
                        () -> race.order(team, effort, gap), () -> model.order(team, effort, gap));
            }
            case 6 -> {
                int place = draw(-100, 3000);
                boolean isSoft = random.nextBoolean();
                told("ground(" + place + ", " + isSoft + ")",
                        () -> race.ground(place, isSoft), () -> model.ground(place, isSoft));
            }
            case 7 -> {
                if (random.nextInt(3) == 0) {
                    told("restart()", race::restart, model::restart);
                } else {
                    lay();
                }
            }
            case 8 -> {
                int rank = drawTeam();
                told("ranked(" + rank + ")", () -> race.ranked(rank), () -> model.ranked(rank));
            }
            case 9, 10 -> foresee(team);
            case 11 -> {
                int ticks = drawTicks(200);
                told("advise(" + team + ", " + ticks + ")",
                        () -> race.advise(team, ticks), () -> model.advise(team, ticks));
            }
            case 12 -> told("mean()", () -> Double.doubleToLongBits(race.mean()),
                    () -> Double.doubleToLongBits(model.mean()));
            default -> ask(team);
        }
    }

    private void foresee(int team) {
        int ticks = drawTicks(400);
        int what = draw(0, 2);
        told("foresee(" + team + ", " + ticks + ", " + what + ")",
                () -> race.foresee(team, ticks, what), () -> model.foresee(team, ticks, what));
    }

    private void ask(int team) {
        int what = draw(0, 11);
        int index = draw(0, 7);
        int part = draw(0, 2);
        int counted = draw(0, 5);
        switch (random.nextInt(4)) {
            case 0 -> told("team(" + team + ", " + what + ")",
                    () -> race.team(team, what), () -> model.team(team, what));
            case 1 -> told("roller(" + team + ", " + index + ")",
                    () -> race.roller(team, index), () -> model.roller(team, index));
            case 2 -> told("next(" + team + ", " + part + ")",
                    () -> race.next(team, part), () -> model.next(team, part));
            default -> told("count(" + counted + ")",
                    () -> race.count(counted), () -> model.count(counted));
        }
    }

    private void told(String words, java.util.function.LongSupplier fromRace, java.util.function.LongSupplier fromModel) {
        call = words;
        got = Checks.outcome(fromRace);
        want = Checks.outcome(fromModel);
    }
}

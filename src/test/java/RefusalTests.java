import java.util.function.ToLongFunction;

/**
 * Every refused call of promises 2 to 16, in races that stand differently: which exception it throws,
 * also where several apply, and that the race goes on afterwards as one that was never asked.
 */
final class RefusalTests {
    private static final String ARGUMENT = "throws.IllegalArgumentException";
    private static final String STATE = "throws.IllegalStateException";
    private static final String INDEX = "throws.IndexOutOfBoundsException";
    private static final int MIN = Integer.MIN_VALUE;
    private static final int MAX = Integer.MAX_VALUE;

    /** How a race stands before the refused call. */
    private enum Standing {
        EMPTY(0), NEW(2), RUNNING(2), FULL(6), OVER(6);

        private final int teams;

        Standing(int teams) {
            this.teams = teams;
        }

        boolean isFull() {
            return teams == 6;
        }

        boolean hasBegun() {
            return this == RUNNING || this == OVER;
        }
    }

    private final Checks checks;
    private final Standing standing;
    private final String untouched;

    private RefusalTests(Checks checks, Standing standing) {
        this.checks = checks;
        this.standing = standing;
        untouched = future(made());
    }

    static void check(Checks checks) {
        for (Standing standing : Standing.values()) {
            new RefusalTests(checks, standing).all();
        }
    }

    private void all() {
        standings();
        setLength();
        lay();
        ground();
        addTeam();
        setCrew();
        order();
        run();
        count();
        team();
        roller();
        next();
        ranked();
        foresee();
        advise();
    }

    private SledgeRace made() {
        SledgeRace race = new SledgeRace();
        race.setLength(120);
        for (int team = 0; team < standing.teams; team++) {
            race.addTeam(20 + team, 10 + team, 8 - team);
            race.setCrew(team, 9, 20, 3, 300);
            race.order(team, 5, 10 + team);
        }
        if (standing.isFull()) {
            for (int i = 1; i <= 11; i++) {
                race.lay(100 * i, i % 4, i % 3);
            }
        }
        if (standing == Standing.RUNNING) {
            race.order(1, 6, 11);
            race.run(4);
        }
        if (standing == Standing.OVER) {
            race.run(60);
        }
        return race;
    }

    /** All that can be asked now, and what becomes of the race in one more run, a restart and a run. */
    private static String future(SledgeRace race) {
        StringBuilder text = new StringBuilder(Checks.everything(race));
        for (int i = 0; i < 2; i++) {
            if (race.count(1) > 0) {
                race.run(30);
            }
            text.append(' ').append(race.digest());
            race.restart();
            text.append(' ').append(race.digest());
        }
        return text.toString();
    }

    private void refused(String due, String call, ToLongFunction<SledgeRace> asked) {
        SledgeRace race = made();
        String words = standing + ": " + call;
        checks.same(words, Checks.outcome(() -> asked.applyAsLong(race)), due);
        checks.same(words + ": the race after it", future(race), untouched);
    }

    /* The standings are what they are meant to be, else the refusals would show little. */
    private void standings() {
        checks.begin("refusals");
        SledgeRace race = made();
        checks.same(standing + ": teams", race.count(1), standing.teams);
        checks.same(standing + ": stretches", race.count(3), standing.isFull() ? 12 : 1);
        checks.same(standing + ": ended", race.count(4), standing == Standing.OVER ? 6 : 0);
        checks.same(standing + ": has begun", race.count(0) > 0 ? 1 : 0, standing.hasBegun() ? 1 : 0);
        if (standing == Standing.RUNNING) {
            checks.same(standing + ": carried", race.team(0, 7), 3);
            checks.same(standing + ": knots", race.team(1, 3), 11);
        }
    }

    private void setLength() {
        checks.begin("promise 2, setLength, refused");
        for (int length : new int[] {99, 2001, 0, -1, MIN, MAX}) {
            refused(ARGUMENT, "setLength(" + length + ")", r -> r.setLength(length));
        }
        if (standing.hasBegun()) {
            for (int length : new int[] {100, 120, 2000}) {
                refused(STATE, "setLength(" + length + ")", r -> r.setLength(length));
            }
        }
    }

    private void lay() {
        checks.begin("promise 3, lay, refused");
        int[][] wrong = {{-1, 0, 0}, {2000, 0, 0}, {0, -6, 0}, {0, 6, 0}, {0, 0, -1}, {0, 0, 10}, {MIN, 0, 0},
            {MAX, 0, 0}, {0, MIN, 0}, {0, MAX, 0}, {0, 0, MIN}, {0, 0, MAX}, {150, -6, 0}, {150, 6, 0}, {150, 0, -1},
            {150, 0, 10}, {-1, -6, -1}, {2000, 6, 10}};
        for (int[] w : wrong) {
            refused(ARGUMENT, "lay(" + w[0] + ", " + w[1] + ", " + w[2] + ")", r -> r.lay(w[0], w[1], w[2]));
        }
        if (standing.isFull()) {
            for (int from : new int[] {1, 99, 101, 150, 1099, 1101, 1999}) {
                refused(STATE, "lay(" + from + ", 0, 0)", r -> r.lay(from, 0, 0));
            }
        }
    }

    private void ground() {
        checks.begin("promise 4, ground, refused");
        for (int place : new int[] {-101, 3001, MIN, MAX}) {
            refused(ARGUMENT, "ground(" + place + ", true)", r -> r.ground(place, true));
            refused(ARGUMENT, "ground(" + place + ", false)", r -> r.ground(place, false));
        }
    }

    private void addTeam() {
        checks.begin("promise 5, addTeam, refused");
        int[][] wrong = {{19, 10, 2}, {81, 99, 8}, {20, 9, 2}, {80, 100, 8}, {20, 10, 1}, {80, 99, 9}, {19, 9, 1},
            {81, 100, 9}, {MIN, 10, 2}, {MAX, 10, 2}, {20, MIN, 2}, {20, MAX, 2}, {20, 0, 2}, {20, 10, MIN},
            {20, 10, MAX}, {20, 10, 0}, {20, 10, -1}};
        for (int[] w : wrong) {
            refused(ARGUMENT, "addTeam(" + w[0] + ", " + w[1] + ", " + w[2] + ")", r -> r.addTeam(w[0], w[1], w[2]));
        }
        if (standing.isFull() || standing.hasBegun()) {
            refused(STATE, "addTeam(20, 10, 2)", r -> r.addTeam(20, 10, 2));
            refused(STATE, "addTeam(80, 99, 8)", r -> r.addTeam(80, 99, 8));
        }
    }

    private void setCrew() {
        checks.begin("promise 6, setCrew, refused");
        for (int team : new int[] {-1, standing.teams, 6, MIN, MAX}) {
            refused(INDEX, "setCrew(" + team + ", 4, 10, 1, 200)", r -> r.setCrew(team, 4, 10, 1, 200));
            refused(INDEX, "setCrew(" + team + ", 0, 21, 4, 19)", r -> r.setCrew(team, 0, 21, 4, 19));
        }
        if (standing == Standing.EMPTY) {
            return;
        }
        int last = standing.teams - 1;
        int[][] wrong = {{0, 1, 1, 20}, {10, 20, 3, 400}, {1, 0, 1, 20}, {9, 21, 3, 400}, {1, 1, 0, 20},
            {9, 20, 4, 400}, {1, 1, 1, 19}, {9, 20, 3, 401}, {0, 0, 0, 19}, {10, 21, 4, 401}, {MIN, 1, 1, 20},
            {MAX, 1, 1, 20}, {1, MIN, 1, 20}, {1, MAX, 1, 20}, {1, 1, MIN, 20}, {1, 1, MAX, 20}, {1, 1, 1, MIN},
            {1, 1, 1, MAX}};
        for (int[] w : wrong) {
            refused(ARGUMENT, "setCrew(" + last + ", " + w[0] + ", " + w[1] + ", " + w[2] + ", " + w[3] + ")",
                    r -> r.setCrew(last, w[0], w[1], w[2], w[3]));
        }
        if (standing.hasBegun()) {
            refused(STATE, "setCrew(0, 1, 1, 1, 20)", r -> r.setCrew(0, 1, 1, 1, 20));
            refused(STATE, "setCrew(1, 9, 20, 3, 400)", r -> r.setCrew(1, 9, 20, 3, 400));
        }
    }

    private void order() {
        checks.begin("promise 7, order, refused");
        for (int team : new int[] {-1, standing.teams, 6, MIN, MAX}) {
            refused(INDEX, "order(" + team + ", 5, 10)", r -> r.order(team, 5, 10));
            refused(INDEX, "order(" + team + ", 11, 41)", r -> r.order(team, 11, 41));
        }
        int[][] wrong = {{-1, 1}, {11, 40}, {0, 0}, {10, 41}, {-1, 0}, {11, 41}, {MIN, 1}, {MAX, 1}, {0, MIN},
            {0, MAX}};
        for (int team = 0; team < standing.teams; team += standing.teams - 1) {
            int asked = team;
            for (int[] w : wrong) {
                refused(ARGUMENT, "order(" + team + ", " + w[0] + ", " + w[1] + ")", r -> r.order(asked, w[0], w[1]));
            }
        }
    }

    private void run() {
        checks.begin("promise 8, run, refused");
        for (int ticks : new int[] {0, 501, -1, MIN, MAX}) {
            refused(ARGUMENT, "run(" + ticks + ")", r -> r.run(ticks));
        }
        if (standing == Standing.EMPTY) {
            refused(STATE, "run(1)", r -> r.run(1));
            refused(STATE, "run(500)", r -> r.run(500));
        }
    }

    private void count() {
        checks.begin("promise 10, count, refused");
        for (int what : new int[] {-1, 6, MIN, MAX}) {
            refused(INDEX, "count(" + what + ")", r -> r.count(what));
        }
    }

    private void team() {
        checks.begin("promise 11, team, refused");
        for (int team : new int[] {-1, standing.teams, 6, MIN, MAX}) {
            for (int what : new int[] {-1, 0, 11, 12}) {
                refused(INDEX, "team(" + team + ", " + what + ")", r -> r.team(team, what));
            }
        }
        for (int what : new int[] {-1, 12, MIN, MAX}) {
            refused(INDEX, "team(0, " + what + ")", r -> r.team(0, what));
        }
    }

    private void roller() {
        checks.begin("promise 12, roller, refused");
        for (int team : new int[] {-1, standing.teams, 6, MIN, MAX}) {
            for (int index : new int[] {-1, 0, 7, 8}) {
                refused(INDEX, "roller(" + team + ", " + index + ")", r -> r.roller(team, index));
            }
        }
        for (int team = 0; team < standing.teams; team++) {
            int asked = team;
            // Team t has 8 - t rollers.
            for (int index : new int[] {-1, 8 - team, 8, MIN, MAX}) {
                refused(INDEX, "roller(" + team + ", " + index + ")", r -> r.roller(asked, index));
            }
        }
        if (standing == Standing.RUNNING) {
            for (int index = 5; index < 8; index++) {
                int carried = index;
                refused(STATE, "roller(0, " + index + ")", r -> r.roller(0, carried));
            }
        }
    }

    private void next() {
        checks.begin("promise 13, next, refused");
        for (int team : new int[] {-1, standing.teams, 6, MIN, MAX}) {
            for (int what : new int[] {-1, 0, 2, 3}) {
                refused(INDEX, "next(" + team + ", " + what + ")", r -> r.next(team, what));
            }
        }
        for (int what : new int[] {-1, 3, MIN, MAX}) {
            refused(INDEX, "next(0, " + what + ")", r -> r.next(0, what));
        }
    }

    private void ranked() {
        checks.begin("promise 14, ranked, refused");
        for (int rank : new int[] {-1, standing.teams, 6, MIN, MAX}) {
            refused(INDEX, "ranked(" + rank + ")", r -> r.ranked(rank));
        }
    }

    private void foresee() {
        checks.begin("promise 15, foresee, refused");
        int[] anyTicks = {0, 1, 400, 401, MIN, MAX};
        for (int ticks : anyTicks) {
            for (int team : new int[] {-1, standing.teams, 6, MIN, MAX}) {
                refused(INDEX, "foresee(" + team + ", " + ticks + ", 0)", r -> r.foresee(team, ticks, 0));
                refused(INDEX, "foresee(" + team + ", " + ticks + ", 3)", r -> r.foresee(team, ticks, 3));
            }
            for (int what : new int[] {-1, 3, MIN, MAX}) {
                refused(INDEX, "foresee(0, " + ticks + ", " + what + ")", r -> r.foresee(0, ticks, what));
            }
        }
        if (standing == Standing.EMPTY) {
            return;
        }
        for (int ticks : new int[] {0, 401, -1, MIN, MAX}) {
            for (int what = 0; what < 3; what++) {
                int asked = what;
                refused(ARGUMENT, "foresee(1, " + ticks + ", " + what + ")", r -> r.foresee(1, ticks, asked));
            }
        }
    }

    private void advise() {
        checks.begin("promise 16, advise, refused");
        for (int team : new int[] {-1, standing.teams, 6, MIN, MAX}) {
            for (int ticks : new int[] {0, 1, 200, 201}) {
                refused(INDEX, "advise(" + team + ", " + ticks + ")", r -> r.advise(team, ticks));
            }
        }
        if (standing == Standing.EMPTY) {
            return;
        }
        for (int ticks : new int[] {0, 201, -1, MIN, MAX}) {
            refused(ARGUMENT, "advise(0, " + ticks + ")", r -> r.advise(0, ticks));
        }
    }
}

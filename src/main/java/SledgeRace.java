/** A race of sledges over turf. */
public final class SledgeRace {
    private static final int MOST_TEAMS = 6;
    private static final int COUNTS = 6;
    private static final int DIGEST_START = 461;

    private final Track track;
    private final Team[] teams;
    /* Looking ahead races these two over and over, so that no call makes a team anew. */
    private final Team trial;
    private final Team rival;
    private int teamCount;
    private int tick;

    public SledgeRace() {
        track = new Track();
        teams = new Team[MOST_TEAMS];
        trial = new Team(0, Team.LEAST_LENGTH, Team.LEAST_WEIGHT, Team.LEAST_ROLLERS);
        rival = new Team(0, Team.LEAST_LENGTH, Team.LEAST_WEIGHT, Team.LEAST_ROLLERS);
        teamCount = 0;
        tick = 0;
    }

    /* ---- the track */

    public int setLength(int length) throws IllegalArgumentException, IllegalStateException {
        if (isOutside(length, 100, 2000)) {
            throw new IllegalArgumentException("length is not 100 to 2000");
        }
        requireStart();
        int before = track.length;
        track.length = length;
        return before;
    }

    public int lay(int from, int slope, int softness)
            throws IllegalArgumentException, IllegalStateException {
        if (isOutside(from, 0, 1999) || isOutside(slope, -5, 5) || isOutside(softness, 0, 9)) {
            throw new IllegalArgumentException("no such stretch can be laid");
        }
        if (!track.putStretch(from, slope, softness)) {
            throw new IllegalStateException("there are 12 stretches");
        }
        return track.stretches;
    }

    public int ground(int place, boolean isSoft) throws IllegalArgumentException {
        if (isOutside(place, -100, 3000)) {
            throw new IllegalArgumentException("place is not -100 to 3000");
        }
        return track.groundAt(place, isSoft);
    }

    /* ---- teams */

    public int addTeam(int length, int weight, int rollers)
            throws IllegalArgumentException, IllegalStateException {
        if (isOutside(length, Team.LEAST_LENGTH, 80) || isOutside(weight, Team.LEAST_WEIGHT, 99)
                || isOutside(rollers, Team.LEAST_ROLLERS, Team.MOST_ROLLERS)) {
            throw new IllegalArgumentException("no such sledge can be built");
        }
        if (teamCount < 0 || teamCount >= teams.length) {
            throw new IllegalStateException("there are 6 teams");
        }
        requireStart();
        int number = teamCount;
        teams[number] = new Team(number, length, weight, rollers);
        teamCount++;
        return number;
    }

    public int setCrew(int team, int pullers, int strength, int runners, int rope)
            throws IndexOutOfBoundsException, IllegalArgumentException, IllegalStateException {
        Team told = teamNumbered(team);
        if (isOutside(pullers, 1, 9) || isOutside(strength, 1, 20)
                || isOutside(runners, 1, Team.MOST_RUNNERS) || isOutside(rope, 20, 400)) {
            throw new IllegalArgumentException("no such crew can be had");
        }
        requireStart();
        int before = told.pullers;
        told.pullers = pullers;
        told.strength = strength;
        told.runners = runners;
        told.wholeRope = rope;
        told.rope = rope;
        return before;
    }

    public int order(int team, int effort, int gap)
            throws IndexOutOfBoundsException, IllegalArgumentException {
        Team told = teamNumbered(team);
        if (isOutside(effort, 0, Team.MOST_EFFORT) || isOutside(gap, 1, 40)) {
            throw new IllegalArgumentException("no team can race like this");
        }
        int before = told.effort;
        told.effort = effort;
        told.gap = gap;
        return before;
    }

    /* ---- the race */

    public int run(int ticks) throws IllegalArgumentException, IllegalStateException {
        if (isOutside(ticks, 1, 500)) {
            throw new IllegalArgumentException("ticks is not 1 to 500");
        }
        if (teamCount == 0) {
            throw new IllegalStateException("there are no teams");
        }
        for (int i = 0; i < ticks; i++) {
            passTick();
        }
        return teamsAtEnd();
    }

    public int restart() {
        tick = 0;
        for (Team each : teams) {
            if (each != null) {
                each.goToStart();
            }
        }
        return teamCount;
    }

    public int count(int what) throws IndexOutOfBoundsException {
        if (isOutside(what, 0, COUNTS - 1)) {
            throw new IndexOutOfBoundsException("what is not 0 to 5");
        }
        return countOf(what);
    }

    public int team(int team, int what) throws IndexOutOfBoundsException {
        Team asked = teamNumbered(team);
        if (isOutside(what, 0, Team.FACTS - 1)) {
            throw new IndexOutOfBoundsException("what is not 0 to 11");
        }
        return asked.fact(what);
    }

    public int roller(int team, int index) throws IndexOutOfBoundsException, IllegalStateException {
        Team asked = teamNumbered(team);
        if (index < 0 || index >= asked.rollers || index >= asked.places.length) {
            throw new IndexOutOfBoundsException("no such roller");
        }
        int place = asked.places[index];
        if (place == Team.CARRIED) {
            throw new IllegalStateException("the roller is carried");
        }
        return place;
    }

    public int next(int team, int what) throws IndexOutOfBoundsException {
        Team asked = teamNumbered(team);
        if (isOutside(what, 0, 2)) {
            throw new IndexOutOfBoundsException("what is not 0 to 2");
        }
        if (what == 0) {
            return asked.pull();
        }
        return what == 1 ? asked.drag(track) : asked.wayWith(asked.pull(), asked.drag(track));
    }

    public int ranked(int rank) throws IndexOutOfBoundsException {
        if (rank < 0 || rank >= teamCount) {
            throw new IndexOutOfBoundsException("no such rank");
        }
        return teamAtRank(rank);
    }

    /* ---- looking ahead */

    public int foresee(int team, int ticks, int what)
            throws IndexOutOfBoundsException, IllegalArgumentException {
        Team asked = teamNumbered(team);
        if (isOutside(what, 0, 2)) {
            throw new IndexOutOfBoundsException("what is not 0 to 2");
        }
        if (isOutside(ticks, 1, 400)) {
            throw new IllegalArgumentException("ticks is not 1 to 400");
        }
        lookAhead(trial, asked, asked.effort, ticks);
        if (what == 0) {
            return trial.front;
        }
        return what == 1 ? rankOfTrialAmongRivals(ticks) : trial.breath;
    }

    public int advise(int team, int ticks)
            throws IndexOutOfBoundsException, IllegalArgumentException {
        Team asked = teamNumbered(team);
        if (isOutside(ticks, 1, 200)) {
            throw new IllegalArgumentException("ticks is not 1 to 200");
        }
        int best = 0;
        int farthest = -1;
        for (int effort = 0; effort <= Team.MOST_EFFORT; effort++) {
            lookAhead(trial, asked, effort, ticks);
            if (trial.front > farthest) {
                farthest = trial.front;
                best = effort;
            }
        }
        return best;
    }

    public double mean() {
        if (teamCount <= 0) {
            return 0.0;
        }
        int sum = 0;
        for (Team each : teams) {
            if (each != null) {
                sum += each.front;
            }
        }
        return (double) sum / (double) teamCount;
    }

    public long digest() {
        long d = DIGEST_START;
        for (int what = 0; what < COUNTS; what++) {
            d = d * 31 + countOf(what);
        }
        for (Team each : teams) {
            if (each != null) {
                d = each.addTo(d);
            }
        }
        for (int rank = 0; rank < teamCount; rank++) {
            d = d * 31 + teamAtRank(rank);
        }
        return d;
    }

    /* ---- helpers */

    private static boolean isOutside(int number, int least, int most) {
        return number < least || number > most;
    }

    private void requireStart() {
        if (tick != 0) {
            throw new IllegalStateException("the race has begun");
        }
    }

    private Team teamNumbered(int number) {
        if (number < 0 || number >= teams.length) {
            throw new IndexOutOfBoundsException("no such team");
        }
        Team found = teams[number];
        if (found == null) {
            throw new IndexOutOfBoundsException("no such team");
        }
        return found;
    }

    private void passTick() {
        tick++;
        for (Team each : teams) {
            if (each != null) {
                each.passTick(tick, track);
            }
        }
    }

    /* No team changes another one's ticks, so one may race on without the others. */
    private void lookAhead(Team copy, Team team, int effort, int ticks) {
        copy.copyFrom(team);
        copy.effort = effort;
        for (int i = 1; i <= ticks; i++) {
            copy.passTick(tick + i, track);
        }
    }

    private int rankOfTrialAmongRivals(int ticks) {
        int rank = 0;
        for (Team each : teams) {
            if (each != null) {
                lookAhead(rival, each, each.effort, ticks);
                rank += rival.isAheadOf(trial) ? 1 : 0;
            }
        }
        return rank;
    }

    private int rankOf(Team asked) {
        int rank = 0;
        for (Team each : teams) {
            if (each != null && each.isAheadOf(asked)) {
                rank++;
            }
        }
        return rank;
    }

    private int teamAtRank(int rank) {
        for (Team each : teams) {
            if (each != null && rankOf(each) == rank) {
                return each.number;
            }
        }
        return -1;
    }

    private int countOf(int what) {
        switch (what) {
            case 0:
                return tick;
            case 1:
                return teamCount;
            case 2:
                return track.length;
            case 3:
                return track.stretches;
            case 4:
                return teamsAtEnd();
            default:
                return ropesBroken();
        }
    }

    private int teamsAtEnd() {
        int sum = 0;
        for (Team each : teams) {
            if (each != null && each.isAtEnd()) {
                sum++;
            }
        }
        return sum;
    }

    private int ropesBroken() {
        int sum = 0;
        for (Team each : teams) {
            if (each != null) {
                sum += each.breaks;
            }
        }
        return sum;
    }

    /** The track with its stretches, which lie in the order in which they were laid. */
    private static final class Track {
        private static final int MOST_STRETCHES = 12;

        private final int[] starts;
        private final int[] slopes;
        private final int[] softnesses;
        private int stretches;
        private int length;

        Track() {
            starts = new int[MOST_STRETCHES];
            slopes = new int[MOST_STRETCHES];
            softnesses = new int[MOST_STRETCHES];
            softnesses[0] = 2;
            stretches = 1;
            length = 500;
        }

        /** Answers false, and changes nothing, if there is no room for another stretch. */
        boolean putStretch(int from, int slope, int softness) {
            int at = 0;
            while (at < stretches && at < MOST_STRETCHES && starts[at] != from) {
                at++;
            }
            if (at >= MOST_STRETCHES) {
                return false;
            }
            starts[at] = from;
            slopes[at] = slope;
            softnesses[at] = softness;
            if (at == stretches) {
                stretches++;
            }
            return true;
        }

        int groundAt(int place, boolean isSoft) {
            int[] values = isSoft ? softnesses : slopes;
            /* A stretch from 0 is always there; places less than 0 belong to it. */
            int reached = Math.max(place, 0);
            int nearest = -1;
            int value = 0;
            for (int i = 0; i < stretches && i < starts.length && i < values.length; i++) {
                if (starts[i] <= reached && starts[i] > nearest) {
                    nearest = starts[i];
                    value = values[i];
                }
            }
            return value;
        }
    }

    /** A team: its sledge, its crew, how it races, and how its race stands. */
    private static final class Team {
        static final int LEAST_LENGTH = 20;
        static final int LEAST_WEIGHT = 10;
        static final int LEAST_ROLLERS = 2;
        static final int MOST_ROLLERS = 8;
        static final int MOST_RUNNERS = 3;
        static final int MOST_EFFORT = 10;
        static final int FACTS = 12;
        /** Stands for the place of a roller that is carried; no sledge comes so far back. */
        static final int CARRIED = -9999;

        private static final int NOTHING = -1;
        private static final int NOT_YET = -1;
        private static final int MOST_BREATH = 1000;
        private static final int KNOTTING_TICKS = 15;
        private static final int UNDER = 0;
        private static final int BEHIND = 1;
        private static final int AHEAD = 2;
        private static final int IN_HANDS = 3;

        private int number;
        private int length;
        private int weight;
        private int rollers;
        private int pullers;
        private int strength;
        private int runners;
        private int wholeRope;
        private int effort;
        private int gap;
        private int front;
        private int breath;
        private int rope;
        private int knotting;
        private int breaks;
        private int way;
        private int endTick;
        private final int[] places;
        private final int[] loads;
        private final int[] ticksToGo;

        Team(int number, int length, int weight, int rollers) {
            this.number = number;
            this.length = length;
            this.weight = weight;
            this.rollers = rollers;
            pullers = 4;
            strength = 10;
            runners = 1;
            wholeRope = 200;
            effort = 5;
            gap = 10;
            places = new int[MOST_ROLLERS];
            loads = new int[MOST_RUNNERS];
            ticksToGo = new int[MOST_RUNNERS];
            goToStart();
        }

        void goToStart() {
            front = 0;
            breath = MOST_BREATH;
            rope = wholeRope;
            knotting = 0;
            breaks = 0;
            way = 0;
            endTick = NOT_YET;
            for (int k = 0; k < rollers && k < places.length; k++) {
                places[k] = front - (k + 1) * length / (rollers + 1);
            }
            for (int r = 0; r < loads.length && r < ticksToGo.length; r++) {
                loads[r] = NOTHING;
                ticksToGo[r] = 0;
            }
        }

        void copyFrom(Team other) {
            number = other.number;
            length = other.length;
            weight = other.weight;
            rollers = other.rollers;
            pullers = other.pullers;
            strength = other.strength;
            runners = other.runners;
            wholeRope = other.wholeRope;
            effort = other.effort;
            gap = other.gap;
            front = other.front;
            breath = other.breath;
            rope = other.rope;
            knotting = other.knotting;
            breaks = other.breaks;
            way = other.way;
            endTick = other.endTick;
            copyRow(other.places, places);
            copyRow(other.loads, loads);
            copyRow(other.ticksToGo, ticksToGo);
        }

        private static void copyRow(int[] from, int[] to) {
            for (int i = 0; i < from.length && i < to.length; i++) {
                to[i] = from[i];
            }
        }

        void passTick(int tick, Track track) {
            if (isAtEnd()) {
                return;
            }
            int pull = pull();
            if (knotting == 0 && pull > rope) {
                breakRope();
            }
            if (knotting > 0) {
                knotting--;
                way = 0;
                breathe(0);
                return;
            }
            way = wayWith(pull, drag(track));
            moveOn();
            sendRunners();
            breathe(effort);
            if (front >= track.length) {
                endTick = tick;
            }
        }

        int pull() {
            return pullers * strength * effort * (500 + breath) / 5000;
        }

        private void breakRope() {
            rope = Math.max(10, rope - rope / 10);
            knotting = KNOTTING_TICKS;
            breaks++;
        }

        int drag(Track track) {
            int slope = track.groundAt(front, false);
            int softness = track.groundAt(front, true);
            int bare = Math.max(0, weight * (20 + 10 * slope + 4 * softness) / 10);
            int under = rollersLying(UNDER);
            int saved = Math.min(under, 4) * (weight * (6 - softness / 2) / 10);
            int drag = Math.max(bare - saved, weight / 10);
            return under < 2 ? 2 * drag : drag;
        }

        int wayWith(int pull, int drag) {
            if (weight <= 0) {
                return 0;
            }
            return Math.min(12, Math.max(0, (pull - drag) * 4 / weight));
        }

        private void moveOn() {
            /* The rollers first: whether one is under the sledge is told by where it was. */
            for (int k = 0; k < rollers && k < places.length; k++) {
                if (sideOf(places[k]) == UNDER) {
                    places[k] += way / 2;
                }
            }
            front += way;
        }

        private void sendRunners() {
            for (int r = 0; r < runners && r < loads.length && r < ticksToGo.length; r++) {
                int load = loads[r];
                if (load == NOTHING) {
                    int taken = lastBehind();
                    if (taken >= 0 && taken < places.length) {
                        loads[r] = taken;
                        ticksToGo[r] = (front + gap - places[taken]) / 12 + 2;
                        places[taken] = CARRIED;
                    }
                } else {
                    ticksToGo[r]--;
                    if (ticksToGo[r] <= 0 && load >= 0 && load < places.length) {
                        places[load] = front + gap;
                        loads[r] = NOTHING;
                    }
                }
            }
        }

        private int lastBehind() {
            int last = NOTHING;
            int smallest = front - length;
            for (int k = 0; k < rollers && k < places.length; k++) {
                if (sideOf(places[k]) == BEHIND && places[k] < smallest) {
                    last = k;
                    smallest = places[k];
                }
            }
            return last;
        }

        private void breathe(int exertion) {
            int then = breath - exertion * exertion / 2 + 18;
            breath = Math.min(MOST_BREATH, Math.max(0, then));
        }

        boolean isAtEnd() {
            return endTick != NOT_YET;
        }

        boolean isAheadOf(Team other) {
            if (isAtEnd() != other.isAtEnd()) {
                return isAtEnd();
            }
            if (isAtEnd() && endTick != other.endTick) {
                return endTick < other.endTick;
            }
            if (!isAtEnd() && front != other.front) {
                return front > other.front;
            }
            return number < other.number;
        }

        private int sideOf(int place) {
            if (place == CARRIED) {
                return IN_HANDS;
            }
            if (place < front - length) {
                return BEHIND;
            }
            return place > front ? AHEAD : UNDER;
        }

        private int rollersLying(int side) {
            int sum = 0;
            for (int k = 0; k < rollers && k < places.length; k++) {
                if (sideOf(places[k]) == side) {
                    sum++;
                }
            }
            return sum;
        }

        int fact(int what) {
            switch (what) {
                case 0:
                    return front;
                case 1:
                    return breath;
                case 2:
                    return rope;
                case 3:
                    return knotting;
                case 4:
                    return rollersLying(UNDER);
                case 5:
                    return rollersLying(BEHIND);
                case 6:
                    return rollersLying(AHEAD);
                case 7:
                    return rollersLying(IN_HANDS);
                case 8:
                    return endTick;
                case 9:
                    return effort;
                case 10:
                    return gap;
                default:
                    return way;
            }
        }

        long addTo(long digest) {
            long d = digest;
            for (int what = 0; what < FACTS; what++) {
                d = d * 31 + fact(what);
            }
            for (int k = 0; k < rollers && k < places.length; k++) {
                d = d * 31 + places[k];
            }
            return d;
        }
    }
}

import java.util.function.LongSupplier;

/** Counts what is as due and prints what is not. */
final class Checks {
    private static final int[] PLACES = {-100, -1, 0, 1, 2, 29, 30, 99, 100, 149, 150, 151, 199, 200, 999, 1000, 1099,
        1100, 1998, 1999, 2000, 3000};

    private int passed = 0;
    private int failed = 0;
    private String promise = "";

    void begin(String name) {
        promise = name;
    }

    void same(String call, long got, long want) {
        verdict(got == want, call + " answered " + got + ", due is " + want);
    }

    void same(String call, double got, double want) {
        verdict(Double.compare(got, want) == 0, call + " answered " + got + ", due is " + want);
    }

    void same(String call, String got, String want) {
        verdict(got.equals(want), call + " answered " + got + ", due is " + want);
    }

    void badArgument(SledgeRace race, String call, LongSupplier made) {
        refused(race, call, made, "IllegalArgumentException");
    }

    void badState(SledgeRace race, String call, LongSupplier made) {
        refused(race, call, made, "IllegalStateException");
    }

    void badIndex(SledgeRace race, String call, LongSupplier made) {
        refused(race, call, made, "IndexOutOfBoundsException");
    }

    /* What the digest does not tell of is looked at in RefusalTests, on objects of their own. */
    private void refused(SledgeRace race, String call, LongSupplier made, String due) {
        long before = race.digest();
        same(call, outcome(made), "throws." + due);
        same(call + ": the digest after it", race.digest(), before);
    }

    /** The answer as text, or the name of what was thrown behind "throws.". */
    static String outcome(LongSupplier made) {
        try {
            return Long.toString(made.getAsLong());
        } catch (RuntimeException e) {
            return "throws." + e.getClass().getSimpleName();
        }
    }

    /**
     * What can be asked without changing the race, in some 150 calls (an object is good for 512):
     * crews, gaps and runners show in what is foreseen.
     */
    static String everything(SledgeRace race) {
        StringBuilder text = new StringBuilder();
        text.append(race.digest()).append(' ').append(race.mean());
        for (int place : PLACES) {
            text.append(' ').append(race.ground(place, true)).append(race.ground(place, false));
        }
        int teams = race.count(1);
        for (int team = 0; team < teams; team++) {
            for (int what = 0; what < 3; what++) {
                text.append(' ').append(race.next(team, what));
                for (int ticks = 9; ticks <= 400; ticks *= 5) {
                    text.append(' ').append(race.foresee(team, ticks, what));
                }
            }
            text.append(' ').append(race.advise(team, 50));
        }
        return text.toString();
    }

    private void verdict(boolean isDue, String words) {
        if (isDue) {
            passed++;
        } else {
            failed++;
            if (failed <= 100) {
                String shown = words.length() > 500 ? words.substring(0, 500) + ".." : words;
                System.out.println(promise + ": " + shown);
            }
        }
    }

    boolean close() {
        System.out.println("checks: " + passed + " as due, " + failed + " not");
        return failed == 0;
    }
}

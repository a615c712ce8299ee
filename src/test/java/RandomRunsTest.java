import java.util.Random;

/** Long runs of calls, from fixed seeds, with each answer held against PlainDraw. */
public final class RandomRunsTest {
    private static final int RUNS = 1000;
    // The document promises nothing of an object after its 512th call.
    private static final int CALLS = 512;
    private static final int CALLS_TO_COMPARE = 170;
    private static final int[][] SIZES = {{2, 2}, {2, 3}, {3, 2}, {3, 3}, {4, 2}};

    private final Checks checks = new Checks();
    private final Random random;
    private final CupDraw draw = new CupDraw();
    private final PlainDraw plain = new PlainDraw();
    private final boolean isLoose;
    private int teams = 4;
    private int groups = 2;

    private RandomRunsTest(long seed) {
        random = new Random(seed);
        // Few rules leave long draws; many of them lead to bowls without any open result.
        isLoose = seed % 2 == 0;
    }

    public static void main(String[] args) {
        int calls = 0;
        for (long seed = 1; seed <= RUNS; seed++) {
            RandomRunsTest run = new RandomRunsTest(seed);
            run.runAll();
            calls += run.checks.made();
            run.checks.endIfWrong("RandomRunsTest, seed " + seed);
        }
        System.out.println("RandomRunsTest: " + RUNS + " runs, " + calls + " calls, 0 wrong");
    }

    private void runAll() {
        int[] sizes = SIZES[random.nextInt(SIZES.length)];
        lay(sizes[0], sizes[1]);
        while (checks.made() < CALLS - 9) {
            callAny();
            if (random.nextInt(40) == 0 && checks.made() < CALLS - CALLS_TO_COMPARE) {
                compareState();
            }
        }
    }

    private void due(String what, Checks.Call expected, Checks.Call call) {
        checks.due(what + " with " + plain, Checks.answerOf(expected), call);
    }

    /** Mostly in range, now and then one of the numbers at the edges or far outside. */
    private int number(int below) {
        int kind = random.nextInt(60);
        return switch (kind) {
            case 0 -> -1;
            case 1 -> below;
            case 2 -> random.nextInt();
            default -> random.nextInt(Math.max(below, 1));
        };
    }

    private void layAny() {
        lay(number(5), number(4));
    }

    private void lay(int newGroups, int newPots) {
        due("lay " + newGroups + ", " + newPots,
                () -> plain.lay(newGroups, newPots), () -> draw.lay(newGroups, newPots));
        groups = plain.groups();
        teams = plain.teams();
    }

    private void callAny() {
        int kind = random.nextInt(100);
        if (kind < 1) {
            layAny();
        } else if (kind < 16) {
            setAny(random.nextInt(isLoose ? 9 : 4));
        } else if (kind < 40) {
            int k = random.nextInt(4) == 0 ? number(groups) : number(plain.left());
            due("draw " + k, () -> plain.draw(k), () -> draw.draw(k));
        } else if (kind < 54) {
            undoAny();
        } else {
            askAny(kind % 12);
        }
    }

    private void undoAny() {
        int times = random.nextInt(12) == 0 ? 9 : 1;
        for (int i = 0; i < times; i++) {
            due("undo", plain::undo, draw::undo);
        }
    }

    private void setAny(int kind) {
        int team = number(teams);
        int other = number(teams);
        boolean is = random.nextInt(isLoose ? 6 : 2) == 0;
        switch (kind) {
            case 0 -> due("setApart " + team + ", " + other + ", " + is,
                    () -> plain.setApart(team, other, is), () -> draw.setApart(team, other, is));
            case 1 -> due("setOtherDays " + team + ", " + other + ", " + is,
                    () -> plain.setOtherDays(team, other, is),
                    () -> draw.setOtherDays(team, other, is));
            case 2 -> {
                int region = number(6);
                int bound = number(4);
                due("setBound " + region + ", " + bound,
                        () -> plain.setBound(region, bound), () -> draw.setBound(region, bound));
            }
            default -> {
                int region = number(6);
                due("setRegion " + team + ", " + region,
                        () -> plain.setRegion(team, region), () -> draw.setRegion(team, region));
            }
        }
    }

    private void askAny(int kind) {
        int team = number(teams);
        int other = number(teams);
        int group = number(groups);
        int pot = number(3);
        String what = kind + ": " + team + ", " + other + ", " + group + ", " + pot;
        switch (kind) {
            case 0 -> due("drawn", plain::drawn, draw::drawn);
            case 1 -> due("pot", plain::pot, draw::pot);
            case 2 -> due("left", plain::left, draw::left);
            case 3 -> due("ballAt " + what, () -> plain.ballAt(group), () -> draw.ballAt(group));
            case 4 -> due("groupOf " + what, () -> plain.groupOf(team), () -> draw.groupOf(team));
            case 5 -> due("teamAt " + what,
                    () -> plain.teamAt(group, pot), () -> draw.teamAt(group, pot));
            case 6 -> due("results", plain::results, draw::results);
            case 7 -> due("fits " + what,
                    () -> plain.fits(team, group), () -> draw.fits(team, group));
            case 8 -> due("forced " + what, () -> plain.forced(team), () -> draw.forced(team));
            case 9 -> due("evenly " + what,
                    () -> plain.evenly(team, group), () -> draw.evenly(team, group));
            case 10 -> due("chances " + what,
                    () -> plain.chances(team, group), () -> draw.chances(team, group));
            default -> due("pairings " + what,
                    () -> plain.pairings(team, other), () -> draw.pairings(team, other));
        }
    }

    private void compareState() {
        due("drawn", plain::drawn, draw::drawn);
        due("orders", plain::orders, draw::orders);
        due("results", plain::results, draw::results);
        for (int t = 0; t < teams; t++) {
            int team = t;
            due("groupOf " + team, () -> plain.groupOf(team), () -> draw.groupOf(team));
            due("forced " + team, () -> plain.forced(team), () -> draw.forced(team));
            for (int g = 0; g < groups; g++) {
                int group = g;
                due("evenly " + team + ", " + group,
                        () -> plain.evenly(team, group), () -> draw.evenly(team, group));
                due("chances " + team + ", " + group,
                        () -> plain.chances(team, group), () -> draw.chances(team, group));
            }
            for (int o = 0; o < teams; o++) {
                int other = o;
                due("pairings " + team + ", " + other,
                        () -> plain.pairings(team, other), () -> draw.pairings(team, other));
            }
        }
    }
}

import java.util.function.Function;

/**
 * "A call that throws an exception changes nothing; if several exceptions apply, the one that its
 * throws lines name first is thrown": each call, at many moments of a draw, with numbers inside,
 * at the edges and far outside. Each refused call is made on an object of its own, which must
 * then tell the same as one without that call.
 */
public final class RefusedCallsTest {
    private static final String INDEX = "IndexOutOfBoundsException";
    private static final String ARGUMENT = "IllegalArgumentException";
    private static final String STATE = "IllegalStateException";
    private static final String NOTHING = "nothing";

    /** A moment of a draw; the balls are the numbers that draw takes. */
    private record Moment(int groups, int pots, boolean isDeadEnd, int undone, int... balls) {
        int drawn() {
            return balls.length - undone;
        }

        int teams() {
            return groups * pots;
        }

        int left() {
            return drawn() == teams() ? 0 : groups - drawn() % groups;
        }

        CupDraw make() {
            CupDraw draw = new CupDraw();
            draw.lay(groups, pots);
            draw.setRegion(0, 5);
            draw.setRegion(groups, 5);
            draw.setBound(5, 1);
            draw.setApart(0, 1, true);
            draw.setOtherDays(0, groups, true);
            for (int team = groups; isDeadEnd && team < 2 * groups; team++) {
                draw.setApart(0, team, true);
            }
            for (int k : balls) {
                draw.draw(k);
            }
            for (int i = 0; i < undone; i++) {
                draw.undo();
            }
            return draw;
        }
    }

    private static final Moment[] MOMENTS = {
        new Moment(2, 2, false, 0),
        new Moment(2, 2, true, 0),
        new Moment(2, 2, false, 0, 1),
        new Moment(2, 2, false, 0, 1, 0, 1, 0),
        new Moment(2, 3, false, 1, 1),
        new Moment(2, 3, false, 0, 1, 0, 1, 0, 1),
        new Moment(3, 2, true, 0),
        new Moment(3, 2, false, 1, 2, 0, 0, 1),
        new Moment(3, 3, false, 0),
        new Moment(3, 3, true, 0),
        new Moment(3, 3, false, 0, 2, 0, 0, 1, 0),
        new Moment(3, 3, false, 0, 0, 0, 0, 0, 0, 0, 0, 0, 0),
        new Moment(4, 2, false, 0),
        new Moment(4, 2, false, 0, 3),
        new Moment(4, 2, false, 0, 3, 2, 1, 0, 0, 0, 0, 0),
        new Moment(4, 2, false, 8, 3, 2, 1, 0, 0, 0, 0, 0),
    };

    private final Checks checks = new Checks();
    private final Moment moment;
    private final String untouched;

    private RefusedCallsTest(Moment moment) {
        this.moment = moment;
        untouched = tellingOf(moment.make());
    }

    public static void main(String[] args) {
        int calls = 0;
        for (Moment moment : MOMENTS) {
            RefusedCallsTest test = new RefusedCallsTest(moment);
            test.tryAll();
            calls += test.checks.made();
            test.checks.endIfWrong("RefusedCallsTest");
        }
        System.out.println("RefusedCallsTest: " + calls + " checks, 0 wrong");
    }

    private void tryAll() {
        lay();
        setRegion();
        setBound();
        setPairs();
        drawAndUndo();
        oneTeam();
        teamAndGroup();
        twoTeams();
        groupAndPot();
    }

    private String tellingOf(CupDraw draw) {
        return Telling.of(draw, moment.groups(), moment.pots());
    }

    /** The numbers inside, and those outside: next to them, brought inside by shifts, far away. */
    private static int[] around(int size) {
        int[] outside = {Integer.MIN_VALUE, -32, -16, -2, -1, size, size + 1, 16, 32, 64,
            Integer.MAX_VALUE};
        int[] numbers = new int[outside.length + size];
        System.arraycopy(outside, 0, numbers, 0, outside.length);
        for (int i = 0; i < size; i++) {
            numbers[outside.length + i] = i;
        }
        return numbers;
    }

    private static boolean isIn(int number, int size) {
        return number >= 0 && number < size;
    }

    private String stateOnceDrawn() {
        return moment.drawn() > 0 ? STATE : NOTHING;
    }

    private void due(String call, String want, Function<CupDraw, Object> run) {
        String what = call + " at " + moment;
        CupDraw draw = moment.make();
        Object answer = Checks.answerOf(() -> run.apply(draw));
        boolean isRefused = String.valueOf(answer).endsWith("Exception");
        checks.due(what + " throws", want, () -> isRefused ? answer : NOTHING);
        if (isRefused) {
            checks.due(what + " leaves all as it was", untouched, () -> tellingOf(draw));
        }
    }

    private void lay() {
        for (int groups : around(6)) {
            for (int pots : around(5)) {
                boolean isRight = groups >= 2 && groups <= 4 && pots >= 2 && pots <= 3
                        && (groups != 4 || pots != 3);
                due("lay " + groups + ", " + pots, isRight ? NOTHING : ARGUMENT,
                        draw -> draw.lay(groups, pots));
            }
        }
    }

    private void setRegion() {
        for (int team : around(moment.teams())) {
            for (int region : around(6)) {
                boolean isRight = isIn(team, moment.teams()) && isIn(region, 6);
                due("setRegion " + team + ", " + region, isRight ? stateOnceDrawn() : INDEX,
                        draw -> draw.setRegion(team, region));
            }
        }
    }

    private void setBound() {
        for (int region : around(6)) {
            for (int bound : around(5)) {
                boolean isRight = bound >= 1 && bound <= 3;
                String onceThere = isRight ? stateOnceDrawn() : ARGUMENT;
                due("setBound " + region + ", " + bound, isIn(region, 6) ? onceThere : INDEX,
                        draw -> draw.setBound(region, bound));
            }
        }
    }

    private void setPairs() {
        for (int team : around(moment.teams())) {
            for (int other : around(moment.teams())) {
                boolean areThere = isIn(team, moment.teams()) && isIn(other, moment.teams());
                String onceThere = team == other ? ARGUMENT : stateOnceDrawn();
                String want = areThere ? onceThere : INDEX;
                due("setApart on " + team + ", " + other, want,
                        draw -> draw.setApart(team, other, true));
                due("setApart off " + team + ", " + other, want,
                        draw -> draw.setApart(team, other, false));
                due("setOtherDays on " + team + ", " + other, want,
                        draw -> draw.setOtherDays(team, other, true));
                due("setOtherDays off " + team + ", " + other, want,
                        draw -> draw.setOtherDays(team, other, false));
            }
        }
    }

    private void drawAndUndo() {
        boolean isOver = moment.drawn() == moment.teams() || moment.isDeadEnd();
        for (int k : around(moment.left())) {
            String want = isIn(k, moment.left()) ? NOTHING : INDEX;
            due("draw " + k, isOver ? STATE : want, draw -> draw.draw(k));
            due("ballAt " + k, want, draw -> draw.ballAt(k));
        }
        due("undo", moment.drawn() > 0 ? NOTHING : STATE, CupDraw::undo);
    }

    private void oneTeam() {
        for (int team : around(moment.teams())) {
            String want = isIn(team, moment.teams()) ? NOTHING : INDEX;
            due("groupOf " + team, want, draw -> draw.groupOf(team));
            due("forced " + team, want, draw -> draw.forced(team));
        }
    }

    private void teamAndGroup() {
        for (int team : around(moment.teams())) {
            for (int group : around(moment.groups())) {
                boolean areThere = isIn(team, moment.teams()) && isIn(group, moment.groups());
                String want = areThere ? NOTHING : INDEX;
                due("fits " + team + ", " + group, want, draw -> draw.fits(team, group));
                due("evenly " + team + ", " + group, want, draw -> draw.evenly(team, group));
                due("chances " + team + ", " + group, want, draw -> draw.chances(team, group));
            }
        }
    }

    private void twoTeams() {
        for (int team : around(moment.teams())) {
            for (int other : around(moment.teams())) {
                boolean areThere = isIn(team, moment.teams()) && isIn(other, moment.teams());
                due("pairings " + team + ", " + other, areThere ? NOTHING : INDEX,
                        draw -> draw.pairings(team, other));
            }
        }
    }

    private void groupAndPot() {
        for (int group : around(moment.groups())) {
            for (int pot : around(moment.pots())) {
                boolean areThere = isIn(group, moment.groups()) && isIn(pot, moment.pots());
                due("teamAt " + group + ", " + pot, areThere ? NOTHING : INDEX,
                        draw -> draw.teamAt(group, pot));
            }
        }
    }
}

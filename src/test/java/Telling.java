/**
 * All that an object tells, as one text. The object is used up by it: its balls are taken back and
 * its rules are wiped, since the setters alone tell them. It takes some 300 calls at most.
 */
final class Telling {
    private final CupDraw draw;
    private final int groups;
    private final int pots;
    private final int teams;
    private final StringBuilder text = new StringBuilder();

    private Telling(CupDraw draw, int groups, int pots) {
        this.draw = draw;
        this.groups = groups;
        this.pots = pots;
        teams = groups * pots;
    }

    static String of(CupDraw draw, int groups, int pots) {
        Telling telling = new Telling(draw, groups, pots);
        telling.tellNumbers();
        telling.tellTeams();
        telling.tellPlaces();
        telling.tellBalls();
        telling.tellRules();
        return telling.text.toString();
    }

    private void tell(String what, Checks.Call call) {
        text.append(what).append(' ').append(Checks.answerOf(call)).append('\n');
    }

    private void tellNumbers() {
        tell("drawn", draw::drawn);
        tell("pot", draw::pot);
        tell("left", draw::left);
        tell("results", draw::results);
        tell("orders", draw::orders);
        for (int ball = 0; ball < groups; ball++) {
            int k = ball;
            tell("ballAt " + k, () -> draw.ballAt(k));
        }
    }

    private void tellTeams() {
        for (int t = 0; t < teams; t++) {
            int team = t;
            tell("groupOf " + team, () -> draw.groupOf(team));
            tell("forced " + team, () -> draw.forced(team));
            for (int o = t; o < teams; o++) {
                int other = o;
                tell("pairings " + team + ", " + other, () -> draw.pairings(team, other));
            }
        }
    }

    private void tellPlaces() {
        for (int g = 0; g < groups; g++) {
            int group = g;
            for (int p = 0; p < pots; p++) {
                int pot = p;
                tell("teamAt " + group + ", " + pot, () -> draw.teamAt(group, pot));
            }
            for (int t = 0; t < teams; t++) {
                int team = t;
                tell("fits " + team + ", " + group, () -> draw.fits(team, group));
                tell("evenly " + team + ", " + group, () -> draw.evenly(team, group));
                tell("chances " + team + ", " + group, () -> draw.chances(team, group));
            }
        }
    }

    private void tellBalls() {
        for (int ball = 0; ball <= teams; ball++) {
            tell("undo", draw::undo);
        }
        tell("lawful results", draw::results);
    }

    private void tellRules() {
        for (int r = 0; r < 6; r++) {
            int region = r;
            tell("bound " + region, () -> draw.setBound(region, 3));
        }
        for (int t = 0; t < teams; t++) {
            int team = t;
            tell("region " + team, () -> draw.setRegion(team, 0));
            for (int o = 0; o < t; o++) {
                int other = o;
                tell("apart " + team + ", " + other, () -> draw.setApart(team, other, false));
                tell("other days " + team + ", " + other,
                        () -> draw.setOtherDays(team, other, false));
            }
        }
    }
}

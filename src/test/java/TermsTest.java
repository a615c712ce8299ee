/** The boundaries that the sentences of 'Terms' name. */
public final class TermsTest extends Sentences {
    public static void main(String[] args) {
        TermsTest test = new TermsTest();
        test.callsOfAnObject();
        test.firstNamedException();
        test.groupsAndPots();
        test.teamsOfPots();
        test.oneTeamOfEachPot();
        test.regionsBounded();
        test.bounds2And3();
        test.keptApart();
        test.otherDays();
        test.openResults();
        test.potOfTheMoment();
        test.lowestGroup();
        test.lowestGroupWithoutDeadEnd();
        test.ordersLeft();
        test.end("TermsTest");
    }

    private void callsOfAnObject() {
        sentence("An object is used for at most 512 calls after it has been made");
        CupDraw draw = new CupDraw();
        draw.lay(4, 2);
        draw.setApart(0, 4, true);
        int calls = 2;
        while (calls + 18 <= 511) {
            drawAll(draw, 3, 2, 1, 0, 3, 2, 1, 0);
            draw.chances(0, 0);
            for (int ball = 0; ball < 8; ball++) {
                draw.undo();
            }
            draw.pairings(0, 4);
            calls += 18;
        }
        for (; calls < 511; calls++) {
            draw.orders();
        }
        due("the 512th", 432, draw::results);
    }

    private void firstNamedException() {
        sentence("if several exceptions apply, the one that its throws lines name first is thrown");
        CupDraw draw = drawnWith(3, 3, 0);
        due("setRegion, no team, late", INDEX, () -> draw.setRegion(9, 0));
        due("setRegion, no region, late", INDEX, () -> draw.setRegion(0, 6));
        due("setBound, no region, bad bound", INDEX, () -> laid(3, 3).setBound(6, 4));
        due("setBound, no region, late", INDEX, () -> draw.setBound(-1, 3));
        due("setBound, bad bound, late", ARGUMENT, () -> draw.setBound(0, 0));
        due("setBound, all three", INDEX, () -> draw.setBound(6, 0));
        due("setApart, no team, same", INDEX, () -> laid(3, 3).setApart(9, 9, true));
        due("setApart, no team, late", INDEX, () -> draw.setApart(9, 0, true));
        due("setApart, no other, late", INDEX, () -> draw.setApart(0, 9, true));
        due("setApart, same, late", ARGUMENT, () -> draw.setApart(0, 0, true));
        due("setApart, all three", INDEX, () -> draw.setApart(-1, -1, true));
        due("setOtherDays, no team, same", INDEX, () -> laid(3, 3).setOtherDays(9, 9, true));
        due("setOtherDays, no team, late", INDEX, () -> draw.setOtherDays(9, 0, true));
        due("setOtherDays, no other, late", INDEX, () -> draw.setOtherDays(0, 9, true));
        due("setOtherDays, same, late", ARGUMENT, () -> draw.setOtherDays(0, 0, true));
        due("setOtherDays, all three", INDEX, () -> draw.setOtherDays(-1, -1, true));
        due("draw, all drawn, no ball", STATE, () -> fullyDrawn(3, 3).draw(0));
        due("draw, all drawn, below 0", STATE, () -> fullyDrawn(3, 3).draw(-1));
        due("draw, dead end, no ball", STATE, () -> deadEnd(3, 3).draw(3));
        due("draw, dead end, below 0", STATE, () -> deadEnd(3, 3).draw(-1));
    }

    private void groupsAndPots() {
        sentence("There are 2 to 4 groups and 2 or 3 pots, but not 4 groups and 3 pots");
        CupDraw draw = new CupDraw();
        int[] numbers = {MIN, -4, -2, -1, 0, 1, 2, 3, 4, 5, 6, 1 << 16, MAX};
        for (int groups : numbers) {
            for (int pots : numbers) {
                boolean is = (groups == 2 || groups == 3) && (pots == 2 || pots == 3)
                        || groups == 4 && pots == 2;
                due("lay " + groups + ", " + pots, is ? (Object) (groups * pots) : ARGUMENT,
                        () -> draw.lay(groups, pots));
            }
        }
    }

    private void teamsOfPots() {
        sentence("with n groups the team t is in the pot t / n (rounded down)");
        for (int[] size : SIZES) {
            int groups = size[0];
            int pots = size[1];
            CupDraw draw = laid(groups, pots);
            for (int t = 0; t < groups * pots; t++) {
                int team = t;
                String what = groups + " groups, " + pots + " pots, team " + team;
                due(what + ": pot", team / groups, draw::pot);
                due(what + ": first ball left", team, () -> draw.ballAt(0));
                due(what + ": not there yet", -1, () -> draw.teamAt(team % groups, team / groups));
                due(what + ": group", team % groups, () -> draw.draw(0));
                due(what + ": there", team, () -> draw.teamAt(team % groups, team / groups));
            }
            due("one team more", INDEX, () -> draw.groupOf(groups * pots));
        }
    }

    private void oneTeamOfEachPot() {
        sentence("Each group gets one team of each pot");
        for (int[] size : SIZES) {
            int groups = size[0];
            int last = groups * size[1] - 1;
            CupDraw draw = drawnWith(groups, size[1], 0);
            due("no second one of the pot", false, () -> draw.fits(groups - 1, 0));
            due("one of the next pot", true, () -> draw.fits(groups, 0));
            due("one of the last pot", true, () -> draw.fits(last, 0));
            due("first pot, one group", 0, () -> draw.pairings(0, groups - 1));
            due("last pot, one group", 0, () -> draw.pairings(last, last - groups + 1));
        }
    }

    private void regionsBounded() {
        sentence("no group may have more teams of that region");
        CupDraw draw = laid(3, 3);
        due("bound 3, three in each group", 216, draw::results);
        draw.setBound(5, 1);
        draw.setRegion(0, 5);
        due("bound 1, one team", 216, draw::results);
        draw.setRegion(8, 5);
        due("bound 1, two teams", 144, draw::results);
        draw.setRegion(4, 5);
        due("bound 1, three teams", 48, draw::results);
        draw.setRegion(4, 4);
        draw.setBound(4, 1);
        due("bound 1, two teams and one of another region", 144, draw::results);
        due("the bound of a team in the first pot", false, () -> {
            draw.draw(0);
            return draw.fits(8, 0);
        });
    }

    private void bounds2And3() {
        sentence("no group may have more teams of that region");
        CupDraw draw = laid(3, 3);
        draw.setRegion(2, 1);
        draw.setRegion(5, 1);
        draw.setBound(1, 2);
        due("bound 2, two teams", 216, draw::results);
        draw.setRegion(8, 1);
        due("bound 2, three teams", 192, draw::results);
        draw.setBound(1, 3);
        due("bound 3, three teams", 216, draw::results);
        draw.setBound(0, 1);
        due("bound 1, six teams in three groups", 0, draw::results);
        draw.setBound(0, 2);
        // At most two of these six in a group of three: each group needs one of the others.
        due("bound 2, six teams in three groups", 48, draw::results);
        CupDraw small = laid(4, 2);
        small.setBound(0, 1);
        due("bound 1, two pots", 0, small::results);
        small.setBound(0, 2);
        due("bound 2, two pots", 576, small::results);
    }

    private void keptApart() {
        sentence("Two teams can be kept apart: they may not be in the same group");
        for (int[] size : SIZES) {
            int groups = size[0];
            int last = groups * size[1] - 1;
            CupDraw draw = laid(groups, size[1]);
            int all = draw.results();
            draw.setApart(last, 0, true);
            due("first and last team", all / groups * (groups - 1), draw::results);
            due("never together", 0, () -> draw.pairings(0, last));
            draw.draw(0);
            due("not with it", false, () -> draw.fits(last, 0));
            due("beside it", true, () -> draw.fits(last, groups - 1));
        }
        CupDraw draw = laid(2, 2);
        draw.setApart(0, 1, true);
        due("two of one pot", 4, draw::results);
    }

    private void otherDays() {
        sentence("one of them must be in a group with an even number, the other one in an odd one");
        CupDraw two = laid(2, 2);
        two.setOtherDays(0, 3, true);
        due("2 groups", 2, two::results);
        CupDraw three = laid(3, 2);
        three.setOtherDays(5, 0, true);
        due("3 groups", 16, three::results);
        CupDraw four = laid(4, 2);
        four.setOtherDays(3, 7, true);
        due("4 groups", 288, four::results);
        for (int at = 0; at < 4; at++) {
            int place = at;
            CupDraw draw = laid(4, 2);
            draw.setOtherDays(3, 7, true);
            drawAll(draw, new int[place]);
            due("the place", place, () -> draw.draw(3 - place));
            for (int g = 0; g < 4; g++) {
                int group = g;
                due("beside " + place + " in " + group, (group + place) % 2 == 1,
                        () -> draw.fits(7, group));
            }
        }
        CupDraw pot = laid(3, 2);
        pot.setOtherDays(0, 2, true);
        due("two of one pot", 24, pot::results);
        pot.setOtherDays(0, 1, true);
        pot.setOtherDays(1, 2, true);
        due("three on two days", 0, pot::results);
    }

    private void openResults() {
        sentence("open if it is lawful and has all teams that were drawn in the groups where they"
                + " are");
        CupDraw draw = laid(3, 2);
        draw.setApart(1, 5, true);
        int[] open = {24, 8, 4, 4, 1, 1, 1};
        for (int ball = 0; ball < 6; ball++) {
            due("after " + ball, open[ball], draw::results);
            draw.draw(0);
        }
        due("all drawn", 1, draw::results);
        for (int ball = 5; ball >= 0; ball--) {
            draw.undo();
            due("back to " + ball, open[ball], draw::results);
        }
    }

    private void potOfTheMoment() {
        sentence("The pot of the moment is the first one of which not all teams were drawn");
        for (int[] size : SIZES) {
            int groups = size[0];
            int teams = groups * size[1];
            CupDraw draw = laid(groups, size[1]);
            for (int ball = 0; ball < teams; ball++) {
                due("after " + ball, ball / groups, draw::pot);
                draw.draw(groups - 1 - ball % groups);
            }
            due("after all", -1, draw::pot);
            for (int ball = teams - 1; ball >= 0; ball--) {
                draw.undo();
                due("back to " + ball, ball / groups, draw::pot);
            }
        }
    }

    private void lowestGroup() {
        sentence("goes to the group with the lowest number for which there is an open result");
        for (int[] size : SIZES) {
            int groups = size[0];
            CupDraw draw = laid(groups, size[1]);
            for (int ball = 0; ball < groups * size[1]; ball++) {
                int place = ball % groups;
                due("without rules", place, () -> draw.draw(groups - 1 - place));
            }
        }
        CupDraw draw = laid(4, 2);
        draw.setApart(0, 4, true);
        draw.setApart(0, 5, true);
        draw.setApart(0, 6, true);
        drawAll(draw, 0, 0, 0, 0);
        due("not the first one", 1, () -> draw.draw(0));
        due("the next one", 2, () -> draw.draw(0));
        due("the last one", 3, () -> draw.draw(0));
        due("the first one again", 0, () -> draw.draw(0));
    }

    private void lowestGroupWithoutDeadEnd() {
        sentence("without leading the draw into a dead end");
        CupDraw draw = laid(3, 2);
        draw.setApart(1, 3, true);
        draw.setApart(2, 3, true);
        drawAll(draw, 0, 0, 0);
        // No rule keeps 4 and 5 out of the group 0, but 3 can go nowhere else.
        due("4 leaves it", 1, () -> draw.draw(1));
        due("5 leaves it", 2, () -> draw.draw(1));
        due("3 takes it", 0, () -> draw.draw(0));
        CupDraw early = laid(4, 2);
        early.setOtherDays(0, 1, true);
        early.setOtherDays(0, 2, true);
        early.setOtherDays(3, 1, true);
        due("0 to the first day", 0, () -> early.draw(0));
        due("1 to the other day", 1, () -> early.draw(0));
        due("3 to the first day's last group", 2, () -> early.draw(1));
        due("2 to what is left", 3, () -> early.draw(0));
    }

    private void ordersLeft() {
        sentence("the product of the factorials of the numbers of balls that are left in each pot");
        int[][] orders = {
            {4, 2, 2, 1, 1},
            {8, 4, 4, 2, 2, 1, 1},
            {36, 12, 6, 6, 2, 1, 1},
            {216, 72, 36, 36, 12, 6, 6, 2, 1, 1},
            {576, 144, 48, 24, 24, 6, 2, 1, 1},
        };
        for (int i = 0; i < SIZES.length; i++) {
            CupDraw draw = laid(SIZES[i][0], SIZES[i][1]);
            int teams = SIZES[i][0] * SIZES[i][1];
            for (int ball = 0; ball < teams; ball++) {
                due("after " + ball, orders[i][ball], draw::orders);
                draw.draw(0);
            }
            due("after all", orders[i][teams], draw::orders);
            due("dead end", orders[i][0], deadEnd(SIZES[i][0], SIZES[i][1])::orders);
        }
    }
}

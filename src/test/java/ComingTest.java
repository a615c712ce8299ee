/** The boundaries that the sentences on what can come name, promises 15 to 21. */
public final class ComingTest extends Sentences {
    public static void main(String[] args) {
        ComingTest test = new ComingTest();
        test.resultsMostAndLeast();
        test.noOpenResult();
        test.allWereDrawn();
        test.fitsAndEvenly();
        test.noSuchTeamOrGroup();
        test.forcedOnlyOne();
        test.forcedSeveral();
        test.ordersEnd();
        test.chancesSure();
        test.chancesAfterEachChange();
        test.pairingsItself();
        test.noSuchTeamOfEither();
        test.end("ComingTest");
    }

    private void resultsMostAndLeast() {
        sentence("results: how many open results there are");
        int[] most = {4, 8, 36, 216, 576};
        for (int i = 0; i < SIZES.length; i++) {
            int[] size = SIZES[i];
            due("without rules", most[i], laid(size[0], size[1])::results);
            due("dead end", 0, deadEnd(size[0], size[1])::results);
            due("all drawn", 1, fullyDrawn(size[0], size[1])::results);
        }
        CupDraw only = new CupDraw();
        only.setApart(0, 2, true);
        due("two of four", 2, only::results);
        only.draw(0);
        due("one, with three balls left", 1, only::results);
    }

    private void noOpenResult() {
        sentence("no open result");
        for (int[] size : SIZES) {
            CupDraw draw = deadEnd(size[0], size[1]);
            int last = size[0] * size[1] - 1;
            for (int team : new int[] {0, last}) {
                due("forced: NONE", -1, () -> draw.forced(team));
                due("pairings with itself: 0", 0, () -> draw.pairings(team, team));
                due("pairings: 0", 0, () -> draw.pairings(team, size[0]));
                for (int g = 0; g < size[0]; g++) {
                    int group = g;
                    due("fits: false", false, () -> draw.fits(team, group));
                    due("evenly: 0", 0, () -> draw.evenly(team, group));
                    due("chances: 0", 0, () -> draw.chances(team, group));
                }
            }
        }
    }

    private void allWereDrawn() {
        sentence("all balls were drawn: the one result that is left");
        for (int[] size : SIZES) {
            CupDraw draw = fullyDrawn(size[0], size[1]);
            int last = size[0] * size[1] - 1;
            for (int g = 0; g < size[0]; g++) {
                int group = g;
                boolean is = group == size[0] - 1;
                due("fits", is, () -> draw.fits(last, group));
                due("evenly", is ? 1 : 0, () -> draw.evenly(last, group));
                due("chances", is ? 1 : 0, () -> draw.chances(last, group));
                due("pairings", is ? 1 : 0, () -> draw.pairings(group, last));
            }
            due("forced", size[0] - 1, () -> draw.forced(last));
            due("orders", 1, draw::orders);
        }
    }

    private void fitsAndEvenly() {
        sentence("whether, and in how many open results, a team is in a group");
        CupDraw draw = laid(4, 2);
        draw.setApart(0, 7, true);
        due("none drawn", 108, () -> draw.evenly(7, 0));
        draw.draw(0);
        due("drawn there: all", 108, () -> draw.evenly(0, 0));
        due("drawn elsewhere: none", 0, () -> draw.evenly(0, 3));
        due("kept apart: none", 0, () -> draw.evenly(7, 0));
        due("kept apart", false, () -> draw.fits(7, 0));
        due("the last group", 36, () -> draw.evenly(7, 3));
        drawAll(draw, 0, 0, 0, 0, 0, 0);
        due("in one of one", 1, () -> draw.evenly(7, 3));
        due("in none of one", false, () -> draw.fits(7, 2));
        due("not even drawn", -1, () -> draw.groupOf(7));
        CupDraw once = drawnWith(2, 2, 0, 0);
        due("in one of two", true, () -> once.fits(3, 1));
        due("in one of two", 1, () -> once.evenly(3, 1));
    }

    private void noSuchTeamOrGroup() {
        sentence("fits, evenly, chances: IndexOutOfBoundsException if there is no such team or"
                + " group");
        for (int[] size : SIZES) {
            for (CupDraw draw : new CupDraw[] {laid(size[0], size[1]), fullyDrawn(size[0], size[1]),
                deadEnd(size[0], size[1])}) {
                for (int team : outside(size[0] * size[1])) {
                    due("fits, team " + team, INDEX, () -> draw.fits(team, 0));
                    due("evenly, team " + team, INDEX, () -> draw.evenly(team, 0));
                    due("chances, team " + team, INDEX, () -> draw.chances(team, 0));
                }
                for (int group : outside(size[0])) {
                    due("fits, group " + group, INDEX, () -> draw.fits(0, group));
                    due("evenly, group " + group, INDEX, () -> draw.evenly(0, group));
                    due("chances, group " + group, INDEX, () -> draw.chances(0, group));
                }
            }
        }
    }

    private void forcedOnlyOne() {
        sentence("the group that is forced: the only one in which it is in open results");
        CupDraw draw = laid(3, 2);
        draw.setOtherDays(0, 1, true);
        draw.setOtherDays(0, 2, true);
        due("before the first ball, 24 results", 1, () -> draw.forced(0));
        due("of several", -1, () -> draw.forced(1));
        draw.draw(1);
        due("drawn", 0, () -> draw.forced(1));
        due("the group with the lowest number is taken", 2, () -> draw.forced(2));
        due("none of the next pot", -1, () -> draw.forced(5));
    }

    private void forcedSeveral() {
        sentence("forced: NONE if there are several");
        CupDraw draw = drawnWith(4, 2, 0, 0);
        due("two of four", -1, () -> draw.forced(3));
        due("four of four", -1, () -> draw.forced(7));
        draw.draw(0);
        due("one of four", 3, () -> draw.forced(3));
        due("still four", -1, () -> draw.forced(7));
        CupDraw rare = laid(3, 2);
        rare.setApart(0, 3, true);
        rare.setApart(1, 4, true);
        rare.setApart(2, 5, true);
        drawAll(rare, 0, 0, 0);
        due("two results", 2, rare::results);
        due("each in one of them", -1, () -> rare.forced(3));
        rare.draw(0);
        due("the last two", 2, () -> rare.forced(4));
        due("the last two", 0, () -> rare.forced(5));
    }

    private void ordersEnd() {
        sentence("orders: how many orders are left; 1 if all balls were drawn");
        for (int[] size : SIZES) {
            CupDraw draw = fullyDrawn(size[0], size[1]);
            due("all drawn", 1, draw::orders);
            draw.undo();
            due("one ball left", 1, draw::orders);
            draw.undo();
            due("two balls of a pot left", 2, draw::orders);
        }
        CupDraw two = drawnWith(2, 2, 0);
        due("one of the first pot, all of the last", 2, two::orders);
    }

    private void chancesSure() {
        sentence("how many of the orders that are left lead to a result with a team in a group");
        CupDraw draw = laid(3, 2);
        draw.setApart(2, 3, true);
        draw.setApart(2, 4, true);
        drawAll(draw, 1, 1);
        due("drawn: all orders", 6, () -> draw.chances(1, 0));
        due("drawn: none elsewhere", 0, () -> draw.chances(1, 1));
        due("forced by the pot: all orders", 6, () -> draw.chances(0, 2));
        due("forced by a rule: all orders", 6, () -> draw.chances(5, 1));
        due("half", 3, () -> draw.chances(3, 0));
        due("half", 3, () -> draw.chances(4, 2));
        due("never", 0, () -> draw.chances(4, 1));
        CupDraw steps = laid(3, 2);
        steps.setApart(2, 3, true);
        drawAll(steps, 0, 0, 0);
        // 3 goes to the group 0 only as the first ball; if it comes last, 1 is kept free for it.
        due("evenly", 2, () -> steps.evenly(3, 0));
        due("by steps", 2, () -> steps.chances(3, 0));
        due("evenly", 2, () -> steps.evenly(3, 1));
        due("by steps", 4, () -> steps.chances(3, 1));
        due("never to 2", 0, () -> steps.chances(3, 2));
        for (int g = 0; g < 3; g++) {
            int group = g;
            due("without rules, a third", 12, () -> laid(3, 2).chances(5, group));
        }
    }

    private void chancesAfterEachChange() {
        sentence("the orders that are left: asked again after each change");
        CupDraw draw = laid(3, 2);
        due("without rules", 12, () -> draw.chances(3, 0));
        draw.setApart(0, 3, true);
        due("apart", 8, () -> draw.chances(3, 0));
        draw.draw(0);
        due("0 drawn", 0, () -> draw.chances(3, 0));
        draw.undo();
        due("0 taken back", 8, () -> draw.chances(3, 0));
        draw.setApart(3, 0, false);
        due("not apart", 12, () -> draw.chances(3, 0));
        draw.setOtherDays(0, 3, true);
        due("on other days", 4, () -> draw.chances(3, 0));
        draw.setOtherDays(3, 0, false);
        due("not on other days", 12, () -> draw.chances(3, 0));
        draw.setBound(1, 1);
        draw.setRegion(0, 1);
        due("alone in a region", 12, () -> draw.chances(3, 0));
        draw.setRegion(3, 1);
        due("two in a region", 8, () -> draw.chances(3, 0));
        draw.setBound(1, 2);
        due("room for both", 12, () -> draw.chances(3, 0));
        due("room for both", 12, () -> draw.pairings(0, 3));
        draw.setBound(1, 1);
        due("no room for both", 0, () -> draw.pairings(0, 3));
        draw.lay(2, 2);
        due("laid anew", 2, () -> draw.pairings(0, 3));
    }

    private void pairingsItself() {
        sentence("a team is in the same group as itself");
        for (int[] size : SIZES) {
            CupDraw draw = laid(size[0], size[1]);
            int last = size[0] * size[1] - 1;
            for (int ball = 0; ball <= last; ball++) {
                due("the first team", draw.orders(), () -> draw.pairings(0, 0));
                due("the last team", draw.orders(), () -> draw.pairings(last, last));
                due("two of the first pot", 0, () -> draw.pairings(0, 1));
                due("two of the last pot", 0, () -> draw.pairings(last, last - 1));
                draw.draw(0);
            }
            due("all drawn, itself", 1, () -> draw.pairings(last, last));
            due("all drawn, together", 1, () -> draw.pairings(size[0] - 1, last));
            due("all drawn, apart", 0, () -> draw.pairings(0, last));
        }
    }

    private void noSuchTeamOfEither() {
        sentence("pairings: IndexOutOfBoundsException if there is no such team, of either");
        for (int[] size : SIZES) {
            for (CupDraw draw : new CupDraw[] {laid(size[0], size[1]), fullyDrawn(size[0], size[1]),
                deadEnd(size[0], size[1])}) {
                for (int team : outside(size[0] * size[1])) {
                    due("team " + team, INDEX, () -> draw.pairings(team, 0));
                    due("other " + team, INDEX, () -> draw.pairings(0, team));
                    due("both " + team, INDEX, () -> draw.pairings(team, team));
                }
            }
        }
    }
}

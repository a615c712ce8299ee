/** The boundaries that the sentences on the bowl name, promises 1 to 6. */
public final class BowlTest extends Sentences {
    public static void main(String[] args) {
        BowlTest test = new BowlTest();
        test.newObject();
        test.layReturns();
        test.layDrops();
        test.regionOutOfRange();
        test.boundOutOfRange();
        test.pairsOutOfRange();
        test.rulesOnceDrawn();
        test.rulesBefore();
        test.end("BowlTest");
    }

    private void newObject() {
        sentence("A draw of 2 pots for 2 groups; see lay");
        due("as after lay", Telling.of(laid(2, 2), 2, 2), () -> Telling.of(new CupDraw(), 2, 2));
        due("results", 4, () -> new CupDraw().results());
        due("last team", -1, () -> new CupDraw().groupOf(3));
        due("no fifth team", INDEX, () -> new CupDraw().groupOf(4));
        due("last group and pot", -1, () -> new CupDraw().teamAt(1, 1));
        due("no third group", INDEX, () -> new CupDraw().teamAt(2, 1));
        due("no third pot", INDEX, () -> new CupDraw().teamAt(1, 2));
    }

    private void layReturns() {
        sentence("Returns how many teams there are");
        int[] teams = {4, 6, 6, 9, 8};
        CupDraw draw = new CupDraw();
        for (int i = 0; i < SIZES.length; i++) {
            int[] size = SIZES[i];
            due(size[0] + " groups, " + size[1] + " pots", teams[i],
                    () -> draw.lay(size[0], size[1]));
        }
    }

    private void layDrops() {
        sentence("all teams have the region 0, all bounds are 3, no teams are kept apart or set to"
                + " other days, nothing is drawn");
        for (int[] before : SIZES) {
            for (int[] after : SIZES) {
                CupDraw draw = laid(before[0], before[1]);
                setAllRules(draw, before[0] * before[1]);
                due("dead end", 0, draw::results);
                draw.lay(after[0], after[1]);
                due("after many rules", Telling.of(laid(after[0], after[1]), after[0], after[1]),
                        () -> Telling.of(draw, after[0], after[1]));
                CupDraw full = fullyDrawn(before[0], before[1]);
                full.lay(after[0], after[1]);
                due("after a whole draw", Telling.of(laid(after[0], after[1]), after[0], after[1]),
                        () -> Telling.of(full, after[0], after[1]));
            }
        }
        CupDraw draw = laid(3, 3);
        setAllRules(draw, 9);
        draw.lay(2, 2);
        // The teams beyond the fourth one have been away, but their rules must be gone too.
        due("after a smaller one", Telling.of(laid(3, 3), 3, 3), () -> {
            draw.lay(3, 3);
            return Telling.of(draw, 3, 3);
        });
    }

    private static void setAllRules(CupDraw draw, int teams) {
        for (int region = 0; region < 6; region++) {
            draw.setBound(region, 1);
        }
        for (int team = 0; team < teams; team++) {
            draw.setRegion(team, 1 + team % 5);
            for (int other = 0; other < team; other++) {
                draw.setApart(team, other, true);
                draw.setOtherDays(team, other, true);
            }
        }
    }

    private void regionOutOfRange() {
        sentence("region 0 to 5; if there is no such team or region");
        for (int[] size : SIZES) {
            int teams = size[0] * size[1];
            CupDraw draw = laid(size[0], size[1]);
            due("last team, last region", 0, () -> draw.setRegion(teams - 1, 5));
            due("last team, first region", 5, () -> draw.setRegion(teams - 1, 0));
            due("first team, last region", 0, () -> draw.setRegion(0, 5));
            due("first team, first region", 5, () -> draw.setRegion(0, 0));
            for (int team : outside(teams)) {
                due("team " + team, INDEX, () -> draw.setRegion(team, 5));
            }
            for (int region : outside(6)) {
                due("region " + region, INDEX, () -> draw.setRegion(teams - 1, region));
            }
            due("unchanged", 0, () -> draw.setRegion(teams - 1, 0));
        }
    }

    private void boundOutOfRange() {
        sentence("region 0 to 5; bound 1 to 3");
        CupDraw draw = new CupDraw();
        for (int r = 0; r < 6; r++) {
            int region = r;
            due("least for " + region, 3, () -> draw.setBound(region, 1));
            due("most for " + region, 1, () -> draw.setBound(region, 3));
            due("middle for " + region, 3, () -> draw.setBound(region, 2));
            for (int bound : new int[] {MIN, -1, 0, 4, 5, MAX}) {
                due("bound " + bound, ARGUMENT, () -> draw.setBound(region, bound));
            }
            due("unchanged", 2, () -> draw.setBound(region, 2));
        }
        for (int region : outside(6)) {
            due("region " + region, INDEX, () -> draw.setBound(region, 3));
        }
    }

    private void pairsOutOfRange() {
        sentence("if there is no such team, of either; if both are the same");
        for (int[] size : SIZES) {
            int teams = size[0] * size[1];
            CupDraw draw = laid(size[0], size[1]);
            due("first and last", false, () -> draw.setApart(0, teams - 1, true));
            due("last and first", true, () -> draw.setApart(teams - 1, 0, false));
            due("last and first", false, () -> draw.setOtherDays(teams - 1, 0, true));
            due("first and last", true, () -> draw.setOtherDays(0, teams - 1, false));
            for (int team : outside(teams)) {
                due("apart, team " + team, INDEX, () -> draw.setApart(team, 0, true));
                due("apart, other " + team, INDEX, () -> draw.setApart(0, team, true));
                due("days, team " + team, INDEX, () -> draw.setOtherDays(team, 0, true));
                due("days, other " + team, INDEX, () -> draw.setOtherDays(0, team, true));
            }
            for (int t = 0; t < teams; t++) {
                int team = t;
                due("apart, itself " + team, ARGUMENT, () -> draw.setApart(team, team, true));
                due("days, itself " + team, ARGUMENT, () -> draw.setOtherDays(team, team, true));
                due("apart, itself off", ARGUMENT, () -> draw.setApart(team, team, false));
                due("days, itself off", ARGUMENT, () -> draw.setOtherDays(team, team, false));
            }
            due("nothing was set", Telling.of(laid(size[0], size[1]), size[0], size[1]),
                    () -> Telling.of(draw, size[0], size[1]));
        }
    }

    private void rulesOnceDrawn() {
        sentence("Throws IllegalStateException if drawn() is above 0");
        CupDraw draw = laid(2, 2);
        for (int drawn = 0; drawn <= 4; drawn++) {
            String what = "with " + drawn + " drawn: ";
            due(what + "setRegion", drawn == 0 ? (Object) 0 : STATE, () -> draw.setRegion(0, 0));
            due(what + "setBound", drawn == 0 ? (Object) 3 : STATE, () -> draw.setBound(0, 3));
            due(what + "setApart", drawn == 0 ? (Object) false : STATE,
                    () -> draw.setApart(0, 3, false));
            due(what + "setOtherDays", drawn == 0 ? (Object) false : STATE,
                    () -> draw.setOtherDays(0, 3, false));
            if (drawn < 4) {
                draw.draw(0);
            }
        }
        for (int drawn = 3; drawn >= 0; drawn--) {
            draw.undo();
            due("back to " + drawn, drawn == 0 ? (Object) 0 : STATE, () -> draw.setRegion(0, 1));
        }
        due("a rule after undo counts", 2, () -> {
            draw.setApart(0, 2, true);
            return draw.results();
        });
    }

    private void rulesBefore() {
        sentence("Returns the one before; whether they were");
        CupDraw draw = laid(3, 3);
        for (int r = 0; r <= 5; r++) {
            int region = r;
            due("region", Math.max(region - 1, 0), () -> draw.setRegion(8, region));
        }
        for (int b = 1; b <= 3; b++) {
            int bound = b;
            due("bound", bound == 1 ? 3 : bound - 1, () -> draw.setBound(5, bound));
        }
        boolean[] is = {false, true, true, false, false, true};
        for (int i = 1; i < is.length; i++) {
            boolean now = is[i];
            due("apart", is[i - 1], () -> draw.setApart(7, 8, now));
            due("other days", is[i - 1], () -> draw.setOtherDays(8, 7, now));
        }
        due("the other way round", true, () -> draw.setApart(8, 7, true));
        due("the other way round", true, () -> draw.setOtherDays(7, 8, true));
        due("a neighbour", false, () -> draw.setApart(6, 8, true));
        due("a neighbour", false, () -> draw.setOtherDays(7, 6, true));
    }
}

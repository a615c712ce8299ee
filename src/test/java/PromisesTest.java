/** For each promise of the document: ordinary inputs, the edges that it names, wrong inputs. */
public final class PromisesTest {
    private static final String INDEX = "IndexOutOfBoundsException";
    private static final String ARGUMENT = "IllegalArgumentException";
    private static final String STATE = "IllegalStateException";
    private static final int[] FAR = {Integer.MIN_VALUE, -1, Integer.MAX_VALUE};

    private final Checks checks = new Checks();

    public static void main(String[] args) {
        PromisesTest test = new PromisesTest();
        test.newObject();
        test.lay();
        test.layDropsAll();
        test.setRegion();
        test.setBound();
        test.setApart();
        test.setOtherDays();
        test.draw();
        test.drawShunsDeadEnds();
        test.undo();
        test.drawnPotLeftBallAt();
        test.groupOf();
        test.teamAt();
        test.results();
        test.fits();
        test.forced();
        test.evenly();
        test.orders();
        test.chances();
        test.pairings();
        test.checks.end("PromisesTest");
    }

    private void due(String what, Object want, Checks.Call call) {
        checks.due(what, want, call);
    }

    private static CupDraw laid(int groups, int pots) {
        CupDraw draw = new CupDraw();
        draw.lay(groups, pots);
        return draw;
    }

    private static CupDraw deadEnd() {
        CupDraw draw = new CupDraw();
        draw.setApart(0, 2, true);
        draw.setApart(0, 3, true);
        return draw;
    }

    private static CupDraw allDrawn() {
        CupDraw draw = new CupDraw();
        for (int ball = 0; ball < 4; ball++) {
            draw.draw(0);
        }
        return draw;
    }

    private void newObject() {
        CupDraw draw = new CupDraw();
        due("1: NONE", -1, () -> CupDraw.NONE);
        due("1: results", 4, draw::results);
        due("1: orders", 4, draw::orders);
        due("1: drawn", 0, draw::drawn);
        due("1: pot", 0, draw::pot);
        due("1: left", 2, draw::left);
        due("1: last team", -1, () -> draw.groupOf(3));
        due("1: no fifth team", INDEX, () -> draw.groupOf(4));
        due("1: no third group", INDEX, () -> draw.teamAt(2, 0));
        due("1: no third pot", INDEX, () -> draw.teamAt(0, 2));
        for (int t = 0; t < 4; t++) {
            int team = t;
            due("1: region of " + t, 0, () -> draw.setRegion(team, 0));
        }
        for (int r = 0; r < 6; r++) {
            int region = r;
            due("1: bound of " + r, 3, () -> draw.setBound(region, 3));
        }
    }

    private void lay() {
        int[][] lawful = {{2, 2, 4}, {2, 3, 8}, {3, 2, 36}, {3, 3, 216}, {4, 2, 576}};
        for (int[] sizes : lawful) {
            CupDraw draw = new CupDraw();
            due("2: teams", sizes[0] * sizes[1], () -> draw.lay(sizes[0], sizes[1]));
            due("2: results", sizes[2], draw::results);
            due("2: orders", sizes[2], draw::orders);
        }
        CupDraw draw = laid(3, 2);
        draw.setRegion(0, 5);
        draw.draw(0);
        int[][] wrong = {{1, 2}, {5, 2}, {2, 1}, {2, 4}, {4, 3}, {0, 0}, {-1, 2}, {3, -1},
            {Integer.MAX_VALUE, 2}, {2, Integer.MIN_VALUE}};
        for (int[] sizes : wrong) {
            due("2: lay " + sizes[0] + ", " + sizes[1], ARGUMENT,
                    () -> draw.lay(sizes[0], sizes[1]));
        }
        due("2: still drawn", 1, draw::drawn);
        due("2: still there", 0, () -> draw.groupOf(0));
        draw.undo();
        due("2: region kept", 5, () -> draw.setRegion(0, 5));
    }

    private void layDropsAll() {
        CupDraw draw = laid(3, 3);
        for (int team = 0; team < 9; team++) {
            draw.setRegion(team, 1 + team % 5);
        }
        for (int region = 0; region < 6; region++) {
            draw.setBound(region, 1);
        }
        draw.setApart(0, 8, true);
        draw.setOtherDays(1, 7, true);
        draw.draw(2);
        draw.draw(0);
        draw.lay(3, 3);
        due("2: nothing drawn", 0, draw::drawn);
        due("2: all results", 216, draw::results);
        due("2: no group", -1, () -> draw.groupOf(2));
        due("2: not apart", false, () -> draw.setApart(0, 8, false));
        due("2: not on other days", false, () -> draw.setOtherDays(1, 7, false));
        for (int t = 0; t < 9; t++) {
            int team = t;
            due("2: region of " + t, 0, () -> draw.setRegion(team, 0));
        }
        for (int r = 0; r < 6; r++) {
            int region = r;
            due("2: bound of " + r, 3, () -> draw.setBound(region, 3));
        }
        due("2: nothing to undo", STATE, draw::undo);
    }

    private void setRegion() {
        CupDraw draw = laid(3, 3);
        due("3: before", 0, () -> draw.setRegion(8, 5));
        due("3: before", 5, () -> draw.setRegion(8, 1));
        due("3: same again", 1, () -> draw.setRegion(8, 1));
        draw.setRegion(0, 1);
        draw.setRegion(3, 1);
        draw.setBound(1, 2);
        due("3: three of one region", 192, draw::results);
        draw.setRegion(3, 2);
        due("3: two of one region", 216, draw::results);
        for (int far : FAR) {
            due("3: team " + far, INDEX, () -> draw.setRegion(far, 0));
            due("3: region " + far, INDEX, () -> draw.setRegion(0, far));
        }
        due("3: team 9", INDEX, () -> draw.setRegion(9, 0));
        due("3: region 6", INDEX, () -> draw.setRegion(0, 6));
        draw.draw(0);
        due("3: late", STATE, () -> draw.setRegion(0, 4));
        due("3: late, team 9", INDEX, () -> draw.setRegion(9, 0));
        due("3: late, region 6", INDEX, () -> draw.setRegion(0, 6));
        draw.undo();
        due("3: unchanged", 1, () -> draw.setRegion(0, 0));
    }

    private void setBound() {
        CupDraw draw = laid(3, 3);
        due("4: before", 3, () -> draw.setBound(0, 2));
        due("4: nine of one region", 0, draw::results);
        due("4: before", 2, () -> draw.setBound(0, 3));
        due("4: three in each group", 216, draw::results);
        draw.setRegion(0, 5);
        draw.setRegion(3, 5);
        draw.setBound(5, 1);
        due("4: two apart by a bound", 144, draw::results);
        for (int far : FAR) {
            due("4: region " + far, INDEX, () -> draw.setBound(far, 1));
            due("4: bound " + far, ARGUMENT, () -> draw.setBound(0, far));
        }
        due("4: region 6", INDEX, () -> draw.setBound(6, 1));
        due("4: bound 0", ARGUMENT, () -> draw.setBound(0, 0));
        due("4: bound 4", ARGUMENT, () -> draw.setBound(0, 4));
        due("4: both wrong", INDEX, () -> draw.setBound(6, 0));
        draw.draw(0);
        due("4: late", STATE, () -> draw.setBound(5, 2));
        due("4: late, region 6", INDEX, () -> draw.setBound(6, 1));
        due("4: late, bound 4", ARGUMENT, () -> draw.setBound(0, 4));
        draw.undo();
        due("4: unchanged", 1, () -> draw.setBound(5, 1));
    }

    private void setApart() {
        CupDraw draw = laid(4, 2);
        due("5: before", false, () -> draw.setApart(0, 4, true));
        due("5: the other way round", true, () -> draw.setApart(4, 0, true));
        due("5: results", 432, draw::results);
        due("5: another pair", false, () -> draw.setApart(0, 5, false));
        due("5: another pair", false, () -> draw.setApart(0, 3, false));
        due("5: no more", true, () -> draw.setApart(4, 0, false));
        due("5: all results", 576, draw::results);
        due("5: both ways", false, () -> draw.setApart(0, 4, false));
        due("5: all results", 576, draw::results);
        due("5: of one pot", false, () -> draw.setApart(0, 1, true));
        due("5: of one pot", true, () -> draw.setApart(1, 0, true));
        due("5: changes nothing", 576, draw::results);
        due("5: is no other day", false, () -> draw.setOtherDays(0, 1, false));
        for (int far : FAR) {
            due("5: team " + far, INDEX, () -> draw.setApart(far, 0, true));
            due("5: other " + far, INDEX, () -> draw.setApart(0, far, true));
        }
        due("5: team 8", INDEX, () -> draw.setApart(8, 0, true));
        due("5: other 8", INDEX, () -> draw.setApart(0, 8, true));
        due("5: both 8", INDEX, () -> draw.setApart(8, 8, true));
        due("5: the same", ARGUMENT, () -> draw.setApart(3, 3, true));
        draw.draw(0);
        due("5: late", STATE, () -> draw.setApart(0, 1, false));
        due("5: late, team 8", INDEX, () -> draw.setApart(8, 0, true));
        due("5: late, the same", ARGUMENT, () -> draw.setApart(3, 3, false));
        draw.undo();
        due("5: unchanged", true, () -> draw.setApart(0, 1, true));
    }

    private void setOtherDays() {
        CupDraw draw = laid(4, 2);
        due("6: before", false, () -> draw.setOtherDays(0, 4, true));
        due("6: the other way round", true, () -> draw.setOtherDays(4, 0, true));
        due("6: results", 288, draw::results);
        due("6: another pair", false, () -> draw.setOtherDays(0, 5, false));
        due("6: another pair", false, () -> draw.setOtherDays(0, 3, false));
        due("6: no more", true, () -> draw.setOtherDays(4, 0, false));
        due("6: all results", 576, draw::results);
        due("6: both ways", false, () -> draw.setOtherDays(0, 4, false));
        due("6: all results", 576, draw::results);
        due("6: of one pot", false, () -> draw.setOtherDays(0, 1, true));
        due("6: of one pot", true, () -> draw.setOtherDays(1, 0, true));
        due("6: results of one pot", 384, draw::results);
        due("6: is not apart", false, () -> draw.setApart(0, 1, false));
        for (int far : FAR) {
            due("6: team " + far, INDEX, () -> draw.setOtherDays(far, 0, true));
            due("6: other " + far, INDEX, () -> draw.setOtherDays(0, far, true));
        }
        due("6: team 8", INDEX, () -> draw.setOtherDays(8, 0, true));
        due("6: other 8", INDEX, () -> draw.setOtherDays(0, 8, true));
        due("6: both 8", INDEX, () -> draw.setOtherDays(8, 8, true));
        due("6: the same", ARGUMENT, () -> draw.setOtherDays(3, 3, true));
        draw.draw(0);
        due("6: late", STATE, () -> draw.setOtherDays(0, 1, false));
        due("6: late, team 8", INDEX, () -> draw.setOtherDays(8, 0, true));
        due("6: late, the same", ARGUMENT, () -> draw.setOtherDays(3, 3, false));
        draw.undo();
        due("6: unchanged", true, () -> draw.setOtherDays(0, 1, true));
        draw.lay(3, 2);
        draw.setOtherDays(0, 1, true);
        draw.setOtherDays(0, 2, true);
        due("6: group 0 and 2 are one day", 12, draw::results);
        due("6: so 0 is in group 1", 1, () -> draw.forced(0));
    }

    private void draw() {
        CupDraw draw = new CupDraw();
        for (int far : FAR) {
            due("7: ball " + far, INDEX, () -> draw.draw(far));
        }
        due("7: ball 2", INDEX, () -> draw.draw(2));
        due("7: nothing changed", 0, draw::drawn);
        due("7: first", 0, () -> draw.draw(1));
        due("7: only one is left", INDEX, () -> draw.draw(1));
        due("7: second", 1, () -> draw.draw(0));
        due("7: other pot", 0, () -> draw.draw(0));
        due("7: last", 1, () -> draw.draw(0));
        due("7: all drawn", STATE, () -> draw.draw(0));
        due("7: all drawn, no such ball", STATE, () -> draw.draw(-1));
        due("7: group of the first", 0, () -> draw.groupOf(1));
        due("7: no open result", STATE, () -> deadEnd().draw(0));
        due("7: no open result, no such ball", STATE, () -> deadEnd().draw(7));
    }

    private void drawShunsDeadEnds() {
        CupDraw draw = laid(3, 3);
        draw.setRegion(0, 1);
        draw.setRegion(3, 1);
        draw.setRegion(6, 1);
        draw.setBound(1, 1);
        draw.setOtherDays(3, 0, true);
        draw.setOtherDays(6, 0, true);
        // 3 and 6 must be in the groups 0 and 2, so that 0 must be in the group 1.
        due("7: shuns group 0", 1, () -> draw.draw(0));
        due("7: next", 0, () -> draw.draw(0));
        due("7: next", 2, () -> draw.draw(0));
        due("7: shuns no group", 0, () -> draw.draw(0));
        due("7: next", 1, () -> draw.draw(1));
        due("7: next", 2, () -> draw.draw(0));
        due("7: shuns 0 for the rest", 2, () -> draw.draw(0));
    }

    private void undo() {
        CupDraw draw = laid(3, 2);
        due("8: none drawn", STATE, draw::undo);
        draw.setApart(2, 5, true);
        draw.draw(2);
        draw.draw(0);
        draw.draw(0);
        draw.draw(1);
        due("8: results", 2, draw::results);
        due("8: chances", 1, () -> draw.chances(5, 2));
        due("8: the latest", 4, draw::undo);
        due("8: its group", -1, () -> draw.groupOf(4));
        due("8: results", 4, draw::results);
        due("8: chances", 4, () -> draw.chances(5, 1));
        due("8: over the pot's edge", 1, draw::undo);
        due("8: and on", 0, draw::undo);
        due("8: and on", 2, draw::undo);
        due("8: no more", STATE, draw::undo);
        due("8: results", 24, draw::results);
        due("8: again", 0, () -> draw.draw(0));
        due("8: from dead end", STATE, () -> deadEnd().undo());
    }

    private void drawnPotLeftBallAt() {
        CupDraw draw = laid(2, 3);
        int[] balls = {1, 0, 0, 0, 1, 0};
        int[] teams = {1, 0, 2, 3, 5, 4};
        for (int i = 0; i < 6; i++) {
            int k = balls[i];
            int have = i;
            due("9: drawn", i, draw::drawn);
            due("10: pot", i / 2, draw::pot);
            due("11: left", 2 - i % 2, draw::left);
            due("12: ball", teams[i], () -> draw.ballAt(k));
            due("12: no such ball", INDEX, () -> draw.ballAt(2 - have % 2));
            for (int far : FAR) {
                due("12: ball " + far, INDEX, () -> draw.ballAt(far));
            }
            draw.draw(k);
        }
        due("9: all", 6, draw::drawn);
        due("10: no pot", -1, draw::pot);
        due("11: none left", 0, draw::left);
        due("12: no ball", INDEX, () -> draw.ballAt(0));
        due("12: no ball", INDEX, () -> draw.ballAt(-1));
        draw.undo();
        due("9: one less", 5, draw::drawn);
        due("10: last pot", 2, draw::pot);
        due("11: one left", 1, draw::left);
        due("12: the last ball", 4, () -> draw.ballAt(0));
        CupDraw dead = deadEnd();
        due("9: dead end", 0, dead::drawn);
        due("10: dead end", 0, dead::pot);
        due("11: dead end", 2, dead::left);
        due("12: dead end", 1, () -> dead.ballAt(1));
        CupDraw wide = laid(4, 2);
        wide.draw(1);
        due("12: rising", 0, () -> wide.ballAt(0));
        due("12: rising", 2, () -> wide.ballAt(1));
        due("12: rising", 3, () -> wide.ballAt(2));
    }

    private void groupOf() {
        CupDraw draw = laid(4, 2);
        draw.draw(3);
        draw.draw(1);
        due("13: drawn", 0, () -> draw.groupOf(3));
        due("13: drawn", 1, () -> draw.groupOf(1));
        due("13: not drawn", -1, () -> draw.groupOf(0));
        due("13: not drawn", -1, () -> draw.groupOf(7));
        due("13: forced, but not drawn", -1, () -> {
            draw.draw(0);
            return draw.groupOf(2);
        });
        due("13: team 8", INDEX, () -> draw.groupOf(8));
        for (int far : FAR) {
            due("13: team " + far, INDEX, () -> draw.groupOf(far));
        }
    }

    private void teamAt() {
        CupDraw draw = laid(3, 3);
        for (int ball = 0; ball < 4; ball++) {
            draw.draw(ball == 3 ? 1 : 0);
        }
        due("14: first pot", 1, () -> draw.teamAt(1, 0));
        due("14: second pot", 4, () -> draw.teamAt(0, 1));
        due("14: none yet", -1, () -> draw.teamAt(1, 1));
        due("14: none yet", -1, () -> draw.teamAt(0, 2));
        due("14: group 3", INDEX, () -> draw.teamAt(3, 0));
        due("14: pot 3", INDEX, () -> draw.teamAt(0, 3));
        for (int far : FAR) {
            due("14: group " + far, INDEX, () -> draw.teamAt(far, 0));
            due("14: pot " + far, INDEX, () -> draw.teamAt(0, far));
        }
    }

    private void results() {
        due("15: dead end", 0, () -> deadEnd().results());
        due("15: all drawn", 1, () -> allDrawn().results());
        CupDraw draw = laid(4, 2);
        due("15: all", 576, draw::results);
        draw.draw(0);
        due("15: one drawn", 144, draw::results);
        draw.undo();
        draw.setApart(0, 4, true);
        due("15: one pair apart", 432, draw::results);
        draw.setOtherDays(0, 4, true);
        due("15: on other days too", 288, draw::results);
        draw.setOtherDays(0, 1, true);
        draw.setOtherDays(1, 4, true);
        due("15: three on two days", 0, draw::results);
    }

    private void fits() {
        CupDraw draw = laid(3, 2);
        draw.setApart(0, 3, true);
        due("16: at first", true, () -> draw.fits(3, 0));
        draw.draw(0);
        due("16: drawn there", true, () -> draw.fits(0, 0));
        due("16: drawn elsewhere", false, () -> draw.fits(0, 1));
        due("16: taken", false, () -> draw.fits(1, 0));
        due("16: apart", false, () -> draw.fits(3, 0));
        due("16: free", true, () -> draw.fits(3, 2));
        due("16: in the only result", true, () -> allDrawn().fits(3, 1));
        due("16: not in the only result", false, () -> allDrawn().fits(3, 0));
        due("16: dead end", false, () -> deadEnd().fits(1, 1));
        due("16: team 6", INDEX, () -> draw.fits(6, 0));
        due("16: group 3", INDEX, () -> draw.fits(0, 3));
        for (int far : FAR) {
            due("16: team " + far, INDEX, () -> draw.fits(far, 0));
            due("16: group " + far, INDEX, () -> draw.fits(0, far));
        }
    }

    private void forced() {
        CupDraw draw = laid(3, 2);
        draw.setApart(0, 3, true);
        draw.setApart(0, 4, true);
        due("17: several", -1, () -> draw.forced(5));
        draw.draw(1);
        due("17: drawn", 0, () -> draw.forced(1));
        due("17: several", -1, () -> draw.forced(2));
        due("17: several", -1, () -> draw.forced(5));
        draw.draw(0);
        due("17: what is left", 2, () -> draw.forced(2));
        due("17: with its partner", 1, () -> draw.forced(5));
        due("17: dead end", -1, () -> deadEnd().forced(0));
        due("17: team 6", INDEX, () -> draw.forced(6));
        for (int far : FAR) {
            due("17: team " + far, INDEX, () -> draw.forced(far));
        }
    }

    private void evenly() {
        CupDraw draw = laid(3, 2);
        draw.setApart(0, 3, true);
        draw.setApart(0, 4, true);
        due("18: results", 12, draw::results);
        due("18: at first", 4, () -> draw.evenly(5, 0));
        draw.draw(1);
        due("18: drawn there", 4, () -> draw.evenly(1, 0));
        due("18: drawn elsewhere", 0, () -> draw.evenly(1, 2));
        due("18: never", 0, () -> draw.evenly(5, 0));
        due("18: half", 2, () -> draw.evenly(5, 2));
        due("18: dead end", 0, () -> deadEnd().evenly(0, 0));
        due("18: team 6", INDEX, () -> draw.evenly(6, 0));
        due("18: group 3", INDEX, () -> draw.evenly(0, 3));
        for (int far : FAR) {
            due("18: team " + far, INDEX, () -> draw.evenly(far, 0));
            due("18: group " + far, INDEX, () -> draw.evenly(0, far));
        }
    }

    private void orders() {
        CupDraw draw = laid(3, 3);
        int[] due = {216, 72, 36, 36, 12, 6, 6, 2, 1, 1};
        for (int ball = 0; ball < 9; ball++) {
            due("19: after " + ball, due[ball], draw::orders);
            draw.draw(0);
        }
        due("19: all drawn", 1, draw::orders);
        due("19: dead end", 4, () -> deadEnd().orders());
        draw.lay(3, 3);
        draw.setApart(0, 3, true);
        due("19: whatever the rules", 216, draw::orders);
    }

    private void chances() {
        CupDraw draw = new CupDraw();
        draw.setApart(0, 3, true);
        // 0 is drawn first or second; 2 must follow it, and goes nowhere else in any order.
        due("20: by steps", 2, () -> draw.chances(2, 0));
        due("20: by steps", 2, () -> draw.chances(2, 1));
        CupDraw wide = laid(3, 2);
        wide.setApart(0, 3, true);
        for (int ball = 0; ball < 3; ball++) {
            wide.draw(0);
        }
        // 3 goes to the group 1, unless it comes last: 4 of 6 orders, but 2 of 4 results.
        due("20: evenly", 2, () -> wide.evenly(3, 1));
        due("20: by steps, not evenly", 4, () -> wide.chances(3, 1));
        due("20: by steps, not evenly", 2, () -> wide.chances(3, 2));
        due("20: never", 0, () -> wide.chances(3, 0));
        due("20: the others", 3, () -> wide.chances(4, 0));
        due("20: the others", 1, () -> wide.chances(5, 1));
        due("20: the others", 2, () -> wide.chances(4, 2));
        due("20: drawn there", 6, () -> wide.chances(1, 1));
        due("20: drawn elsewhere", 0, () -> wide.chances(1, 0));
        due("20: asking changes nothing", 3, wide::drawn);
        due("20: asking changes nothing", 4, wide::results);
        due("20: all drawn", 1, () -> allDrawn().chances(1, 1));
        due("20: all drawn", 0, () -> allDrawn().chances(1, 0));
        due("20: dead end", 0, () -> deadEnd().chances(0, 0));
        due("20: team 4", INDEX, () -> draw.chances(4, 0));
        due("20: group 2", INDEX, () -> draw.chances(0, 2));
        for (int far : FAR) {
            due("20: team " + far, INDEX, () -> draw.chances(far, 0));
            due("20: group " + far, INDEX, () -> draw.chances(0, far));
        }
    }

    private void pairings() {
        CupDraw draw = laid(3, 2);
        due("21: one in three", 12, () -> draw.pairings(0, 5));
        due("21: of one pot", 0, () -> draw.pairings(0, 1));
        due("21: itself", 36, () -> draw.pairings(4, 4));
        draw.setApart(0, 3, true);
        draw.setApart(0, 4, true);
        due("21: apart", 0, () -> draw.pairings(0, 3));
        due("21: the only one", 36, () -> draw.pairings(5, 0));
        draw.draw(0);
        due("21: after a ball", 12, () -> draw.pairings(0, 5));
        due("21: half", 6, () -> draw.pairings(3, 1));
        due("21: all drawn", 1, () -> allDrawn().pairings(0, 2));
        due("21: all drawn", 0, () -> allDrawn().pairings(0, 3));
        due("21: dead end", 0, () -> deadEnd().pairings(0, 0));
        due("21: team 6", INDEX, () -> draw.pairings(6, 0));
        due("21: other 6", INDEX, () -> draw.pairings(0, 6));
        due("21: both 6", INDEX, () -> draw.pairings(6, 6));
        for (int far : FAR) {
            due("21: team " + far, INDEX, () -> draw.pairings(far, 0));
            due("21: other " + far, INDEX, () -> draw.pairings(0, far));
        }
    }
}

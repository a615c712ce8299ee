/** The boundaries that the sentences on the draw name, promises 7 to 14. */
public final class DrawingTest extends Sentences {
    public static void main(String[] args) {
        DrawingTest test = new DrawingTest();
        test.drawByRisingNumbers();
        test.drawNoBall();
        test.drawWithoutEnd();
        test.undoLatest();
        test.undoNone();
        test.drawnAndLeft();
        test.noPot();
        test.ballAtByRisingNumbers();
        test.groupOfNone();
        test.noSuchTeam();
        test.teamAtNone();
        test.noSuchGroupOrPot();
        test.end("DrawingTest");
    }

    private void drawByRisingNumbers() {
        sentence("which of the balls that are left: from 0, by rising numbers of their teams");
        CupDraw draw = laid(4, 2);
        draw.draw(3);
        draw.draw(1);
        draw.draw(0);
        draw.draw(0);
        int[] groups = {2, 1, 3, 0};
        for (int t = 0; t < 4; t++) {
            int team = t;
            due("group of " + team, groups[team], () -> draw.groupOf(team));
        }
        draw.draw(2);
        draw.draw(2);
        due("6 was the third", 0, () -> draw.groupOf(6));
        due("then 7 was", 1, () -> draw.groupOf(7));
    }

    private void drawNoBall() {
        sentence("draw throws IndexOutOfBoundsException if there is no such ball");
        for (int[] size : SIZES) {
            CupDraw draw = laid(size[0], size[1]);
            for (int ball = 0; ball < size[0] * size[1]; ball++) {
                int left = size[0] - ball % size[0];
                for (int k : outside(left)) {
                    due(left + " left, ball " + k, INDEX, () -> draw.draw(k));
                }
                due("nothing was drawn", ball, draw::drawn);
                due("the last one", ball % size[0], () -> draw.draw(left - 1));
            }
        }
    }

    private void drawWithoutEnd() {
        sentence("draw throws IllegalStateException if all balls were drawn, or there is no open"
                + " result");
        for (int[] size : SIZES) {
            CupDraw full = fullyDrawn(size[0], size[1]);
            due("all drawn", STATE, () -> full.draw(0));
            due("still all drawn", size[0] * size[1], full::drawn);
            full.undo();
            due("one left", size[0] - 1, () -> full.draw(0));
            CupDraw dead = deadEnd(size[0], size[1]);
            due("dead end", STATE, () -> dead.draw(0));
            due("nothing was drawn", 0, dead::drawn);
            dead.setApart(0, size[0] * size[1] - 1, false);
            due("out of the dead end", 0, () -> dead.draw(0));
        }
    }

    private void undoLatest() {
        sentence("Takes the latest ball back. Returns its team");
        for (int[] size : SIZES) {
            int groups = size[0];
            int teams = groups * size[1];
            CupDraw draw = laid(groups, size[1]);
            for (int ball = 0; ball < teams; ball++) {
                draw.draw(groups - 1 - ball % groups);
            }
            for (int ball = teams - 1; ball >= 0; ball--) {
                int team = ball / groups * groups + groups - 1 - ball % groups;
                int place = ball % groups;
                due("its team", team, draw::undo);
                due("its group", -1, () -> draw.groupOf(team));
                due("its place", -1, () -> draw.teamAt(place, team / groups));
            }
            due("as if never drawn", Telling.of(laid(groups, size[1]), groups, size[1]),
                    () -> Telling.of(draw, groups, size[1]));
        }
    }

    private void undoNone() {
        sentence("undo throws IllegalStateException if none was drawn");
        CupDraw draw = new CupDraw();
        due("a new object", STATE, draw::undo);
        draw.draw(1);
        due("one was drawn", 1, draw::undo);
        due("none is left", STATE, draw::undo);
        due("still 0", 0, draw::drawn);
        draw.draw(0);
        draw.lay(2, 2);
        due("after lay", STATE, draw::undo);
        due("dead end", STATE, () -> deadEnd(2, 2).undo());
    }

    private void drawnAndLeft() {
        sentence("drawn: how many balls were drawn; left: 0 if all were drawn");
        for (int[] size : SIZES) {
            int teams = size[0] * size[1];
            CupDraw draw = laid(size[0], size[1]);
            for (int ball = 0; ball < teams; ball++) {
                due("drawn", ball, draw::drawn);
                due("left", size[0] - ball % size[0], draw::left);
                draw.draw(0);
            }
            due("all are drawn", teams, draw::drawn);
            due("none is left", 0, draw::left);
            draw.undo();
            due("all but one", teams - 1, draw::drawn);
            due("one is left", 1, draw::left);
        }
        due("left in a dead end", 3, () -> deadEnd(3, 2).left());
        due("drawn in a dead end", 0, () -> deadEnd(3, 2).drawn());
    }

    private void noPot() {
        sentence("pot: NONE if all balls were drawn");
        due("None", -1, () -> CupDraw.NONE);
        for (int[] size : SIZES) {
            CupDraw draw = fullyDrawn(size[0], size[1]);
            due("all drawn", CupDraw.NONE, draw::pot);
            draw.undo();
            due("one left", size[1] - 1, draw::pot);
            due("dead end", 0, deadEnd(size[0], size[1])::pot);
        }
    }

    private void ballAtByRisingNumbers() {
        sentence("a ball that is left in the pot of the moment, from 0, by rising numbers; throws"
                + " IndexOutOfBoundsException if there is no such ball");
        for (int[] size : SIZES) {
            CupDraw draw = laid(size[0], size[1]);
            for (int ball = 0; ball < size[0] * size[1]; ball++) {
                int left = size[0] - ball % size[0];
                int first = ball / size[0] * size[0];
                for (int k : outside(left)) {
                    due(left + " left, ball " + k, INDEX, () -> draw.ballAt(k));
                }
                for (int i = 0; i < left; i++) {
                    int k = i;
                    due(left + " left, ball " + k, first + k, () -> draw.ballAt(k));
                }
                draw.draw(left - 1);
            }
            for (int k : outside(0)) {
                due("none left, ball " + k, INDEX, () -> draw.ballAt(k));
            }
        }
        CupDraw draw = drawnWith(4, 2, 1);
        due("before the gap", 0, () -> draw.ballAt(0));
        due("behind the gap", 2, () -> draw.ballAt(1));
        due("the last one", 3, () -> draw.ballAt(2));
        due("as many as before", INDEX, () -> draw.ballAt(3));
    }

    private void groupOfNone() {
        sentence("groupOf: NONE if it was not drawn");
        CupDraw draw = laid(3, 2);
        due("nothing drawn", -1, () -> draw.groupOf(0));
        drawAll(draw, 0, 0);
        due("drawn", 1, () -> draw.groupOf(1));
        due("forced", 2, () -> draw.forced(2));
        due("forced, but not drawn", -1, () -> draw.groupOf(2));
        due("of the next pot", -1, () -> draw.groupOf(3));
        draw.undo();
        due("taken back", -1, () -> draw.groupOf(1));
        draw.lay(3, 2);
        due("laid anew", -1, () -> draw.groupOf(0));
        due("last one drawn", 2, () -> fullyDrawn(3, 2).groupOf(5));
    }

    private void noSuchTeam() {
        sentence("groupOf, forced: IndexOutOfBoundsException if there is no such team");
        for (int[] size : SIZES) {
            int teams = size[0] * size[1];
            for (CupDraw draw : new CupDraw[] {laid(size[0], size[1]), fullyDrawn(size[0], size[1]),
                deadEnd(size[0], size[1])}) {
                for (int team : outside(teams)) {
                    due("groupOf " + team, INDEX, () -> draw.groupOf(team));
                    due("forced " + team, INDEX, () -> draw.forced(team));
                }
            }
        }
    }

    private void teamAtNone() {
        sentence("teamAt: NONE if there is none yet");
        for (int[] size : SIZES) {
            int groups = size[0];
            CupDraw draw = laid(groups, size[1]);
            due("nothing drawn", -1, () -> draw.teamAt(0, 0));
            draw.draw(groups - 1);
            due("the first one", groups - 1, () -> draw.teamAt(0, 0));
            due("the next group", -1, () -> draw.teamAt(1, 0));
            due("the next pot", -1, () -> draw.teamAt(0, 1));
            draw.undo();
            due("taken back", -1, () -> draw.teamAt(0, 0));
            CupDraw full = fullyDrawn(groups, size[1]);
            int last = groups * size[1] - 1;
            due("the last one", last, () -> full.teamAt(groups - 1, size[1] - 1));
        }
    }

    private void noSuchGroupOrPot() {
        sentence("teamAt: IndexOutOfBoundsException if there is no such group or pot");
        for (int[] size : SIZES) {
            CupDraw draw = fullyDrawn(size[0], size[1]);
            for (int group : outside(size[0])) {
                due("group " + group, INDEX, () -> draw.teamAt(group, 0));
            }
            for (int pot : outside(size[1])) {
                due("pot " + pot, INDEX, () -> draw.teamAt(0, pot));
            }
        }
    }
}

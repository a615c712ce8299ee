/**
 * What the tests of the document's sentences share. Each test method says first which sentence it
 * holds the class to; the due answers are counted by hand.
 */
abstract class Sentences {
    static final String INDEX = "IndexOutOfBoundsException";
    static final String ARGUMENT = "IllegalArgumentException";
    static final String STATE = "IllegalStateException";
    static final int MIN = Integer.MIN_VALUE;
    static final int MAX = Integer.MAX_VALUE;
    /** All numbers of groups and pots that there are. */
    static final int[][] SIZES = {{2, 2}, {2, 3}, {3, 2}, {3, 3}, {4, 2}};

    private final Checks checks = new Checks();
    private String sentence;

    void sentence(String words) {
        sentence = words;
    }

    void due(Object want, Checks.Call call) {
        due("the call", want, call);
    }

    void due(String what, Object want, Checks.Call call) {
        checks.due("\"" + sentence + "\": " + what, want, call);
    }

    void end(String name) {
        checks.end(name);
    }

    static CupDraw laid(int groups, int pots) {
        CupDraw draw = new CupDraw();
        draw.lay(groups, pots);
        return draw;
    }

    static void drawAll(CupDraw draw, int... balls) {
        for (int k : balls) {
            draw.draw(k);
        }
    }

    static CupDraw drawnWith(int groups, int pots, int... balls) {
        CupDraw draw = laid(groups, pots);
        drawAll(draw, balls);
        return draw;
    }

    static CupDraw fullyDrawn(int groups, int pots) {
        return drawnWith(groups, pots, new int[groups * pots]);
    }

    /** The last team may be with no team of the first pot. */
    static CupDraw deadEnd(int groups, int pots) {
        CupDraw draw = laid(groups, pots);
        for (int team = 0; team < groups; team++) {
            draw.setApart(team, groups * pots - 1, true);
        }
        return draw;
    }

    /** The first numbers outside, those that shifts would bring inside again, and the far ones. */
    static int[] outside(int size) {
        return new int[] {MIN, MIN + 1, -32, -16, -2, -1, size, size + 1, 16, 32, 64, MAX - 1, MAX};
    }
}

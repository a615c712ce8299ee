import java.util.ArrayList;
import java.util.Arrays;
import java.util.List;

/**
 * The document's rules once more, word by word and without any regard for speed, to hold CupDraw
 * against. It shares no way of working with CupDraw: results are rows of groups, all of them are
 * tried, and each order is followed from its start.
 */
final class PlainDraw {
    private int groups;
    private int teams;
    private int[] regions;
    private int[] bounds;
    private boolean[][] apart;
    private boolean[][] otherDays;
    private final List<Integer> balls = new ArrayList<>();
    private final List<Integer> places = new ArrayList<>();
    private List<int[]> lawful;
    private List<int[]> ends;

    PlainDraw() {
        lay(2, 2);
    }

    int lay(int newGroups, int newPots) {
        boolean isTooLarge = newGroups == 4 && newPots == 3;
        if (newGroups < 2 || newGroups > 4 || newPots < 2 || newPots > 3 || isTooLarge) {
            throw new IllegalArgumentException();
        }
        groups = newGroups;
        teams = newGroups * newPots;
        regions = new int[teams];
        bounds = new int[] {3, 3, 3, 3, 3, 3};
        apart = new boolean[teams][teams];
        otherDays = new boolean[teams][teams];
        balls.clear();
        places.clear();
        lawful = null;
        ends = null;
        return teams;
    }

    int groups() {
        return groups;
    }

    int teams() {
        return teams;
    }

    int setRegion(int team, int region) {
        need(team, teams);
        need(region, 6);
        needNoBall();
        int before = regions[team];
        regions[team] = region;
        return before;
    }

    int setBound(int region, int bound) {
        need(region, 6);
        if (bound != 1 && bound != 2 && bound != 3) {
            throw new IllegalArgumentException();
        }
        needNoBall();
        int before = bounds[region];
        bounds[region] = bound;
        return before;
    }

    boolean setApart(int team, int other, boolean isApart) {
        return setPair(apart, team, other, isApart);
    }

    boolean setOtherDays(int team, int other, boolean isOther) {
        return setPair(otherDays, team, other, isOther);
    }

    private boolean setPair(boolean[][] pairs, int team, int other, boolean isPair) {
        need(team, teams);
        need(other, teams);
        if (team == other) {
            throw new IllegalArgumentException();
        }
        needNoBall();
        boolean before = pairs[team][other];
        pairs[team][other] = isPair;
        pairs[other][team] = isPair;
        return before;
    }

    int draw(int k) {
        if (balls.size() == teams || results() == 0) {
            throw new IllegalStateException();
        }
        int team = ballAt(k);
        int group = firstGroup(team, balls, places);
        balls.add(team);
        places.add(group);
        ends = null;
        return group;
    }

    int undo() {
        if (balls.isEmpty()) {
            throw new IllegalStateException();
        }
        ends = null;
        places.remove(places.size() - 1);
        return balls.remove(balls.size() - 1);
    }

    int drawn() {
        return balls.size();
    }

    int pot() {
        return balls.size() == teams ? -1 : balls.size() / groups;
    }

    int left() {
        return ballsLeft(balls).size();
    }

    int ballAt(int k) {
        List<Integer> left = ballsLeft(balls);
        need(k, left.size());
        return left.get(k);
    }

    int groupOf(int team) {
        need(team, teams);
        int at = balls.indexOf(team);
        return at < 0 ? -1 : places.get(at);
    }

    int teamAt(int group, int pot) {
        need(group, groups);
        need(pot, teams / groups);
        for (int at = 0; at < balls.size(); at++) {
            if (balls.get(at) / groups == pot && places.get(at) == group) {
                return balls.get(at);
            }
        }
        return -1;
    }

    int results() {
        int count = 0;
        for (int[] result : lawful()) {
            count += isOpen(result, balls, places) ? 1 : 0;
        }
        return count;
    }

    boolean fits(int team, int group) {
        return evenly(team, group) != 0;
    }

    int forced(int team) {
        need(team, teams);
        List<Integer> possible = new ArrayList<>();
        for (int group = 0; group < groups; group++) {
            if (fits(team, group)) {
                possible.add(group);
            }
        }
        return possible.size() == 1 ? possible.get(0) : -1;
    }

    int evenly(int team, int group) {
        need(team, teams);
        need(group, groups);
        int count = 0;
        for (int[] result : lawful()) {
            count += isOpen(result, balls, places) && result[team] == group ? 1 : 0;
        }
        return count;
    }

    int orders() {
        int product = 1;
        for (int ball = balls.size(); ball < teams; ball++) {
            product *= groups - ball % groups;
        }
        return product;
    }

    int chances(int team, int group) {
        need(team, teams);
        need(group, groups);
        int count = 0;
        for (int[] result : ends()) {
            count += result[team] == group ? 1 : 0;
        }
        return count;
    }

    int pairings(int team, int other) {
        need(team, teams);
        need(other, teams);
        int count = 0;
        for (int[] result : ends()) {
            count += result[team] == result[other] ? 1 : 0;
        }
        return count;
    }

    private static void need(int number, int below) {
        if (number < 0 || number >= below) {
            throw new IndexOutOfBoundsException();
        }
    }

    private void needNoBall() {
        if (!balls.isEmpty()) {
            throw new IllegalStateException();
        }
        lawful = null;
        ends = null;
    }

    private List<Integer> ballsLeft(List<Integer> out) {
        List<Integer> left = new ArrayList<>();
        for (int team = 0; team < teams; team++) {
            if (team / groups == out.size() / groups && !out.contains(team)) {
                left.add(team);
            }
        }
        return left;
    }

    private int firstGroup(int team, List<Integer> out, List<Integer> in) {
        for (int group = 0; group < groups; group++) {
            for (int[] result : lawful()) {
                if (result[team] == group && isOpen(result, out, in)) {
                    return group;
                }
            }
        }
        throw new AssertionError("a dead end");
    }

    private static boolean isOpen(int[] result, List<Integer> out, List<Integer> in) {
        for (int at = 0; at < out.size(); at++) {
            if (result[out.get(at)] != in.get(at)) {
                return false;
            }
        }
        return true;
    }

    private List<int[]> ends() {
        if (ends == null) {
            ends = new ArrayList<>();
            if (results() > 0) {
                follow(new ArrayList<>(balls), new ArrayList<>(places));
            }
        }
        return ends;
    }

    private void follow(List<Integer> out, List<Integer> in) {
        if (out.size() == teams) {
            int[] result = new int[teams];
            for (int at = 0; at < teams; at++) {
                result[out.get(at)] = in.get(at);
            }
            ends.add(result);
            return;
        }
        for (int team : ballsLeft(out)) {
            List<Integer> moreOut = new ArrayList<>(out);
            List<Integer> moreIn = new ArrayList<>(in);
            moreIn.add(firstGroup(team, out, in));
            moreOut.add(team);
            follow(moreOut, moreIn);
        }
    }

    private List<int[]> lawful() {
        if (lawful == null) {
            lawful = new ArrayList<>();
            int all = 1;
            for (int team = 0; team < teams; team++) {
                all *= groups;
            }
            for (int number = 0; number < all; number++) {
                int[] result = new int[teams];
                for (int team = 0, rest = number; team < teams; team++, rest /= groups) {
                    result[team] = rest % groups;
                }
                if (hasOneOfEachPot(result) && breaksNoRule(result)) {
                    lawful.add(result);
                }
            }
        }
        return lawful;
    }

    private boolean hasOneOfEachPot(int[] result) {
        for (int a = 0; a < teams; a++) {
            for (int b = 0; b < a; b++) {
                if (a / groups == b / groups && result[a] == result[b]) {
                    return false;
                }
            }
        }
        return true;
    }

    private boolean breaksNoRule(int[] result) {
        int[][] regionCounts = new int[groups][6];
        for (int a = 0; a < teams; a++) {
            int count = ++regionCounts[result[a]][regions[a]];
            if (count > bounds[regions[a]]) {
                return false;
            }
            for (int b = 0; b < teams; b++) {
                if (apart[a][b] && result[a] == result[b]
                        || otherDays[a][b] && result[a] % 2 == result[b] % 2) {
                    return false;
                }
            }
        }
        return true;
    }

    @Override
    public String toString() {
        return "groups " + groups + ", regions " + Arrays.toString(regions) + ", bounds "
                + Arrays.toString(bounds) + ", apart " + Arrays.deepToString(apart)
                + ", other days " + Arrays.deepToString(otherDays) + ", balls " + balls;
    }
}

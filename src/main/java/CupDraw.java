/**
 * A draw of a cup: balls are drawn from pots, one pot after the other, and each team goes to the
 * first group that it may go to without leading the draw into a dead end.
 */
public final class CupDraw {
    public static final int NONE = -1;

    private static final int MIN_GROUPS = 2;
    private static final int MAX_GROUPS = 4;
    private static final int MIN_POTS = 2;
    private static final int MAX_POTS = 3;
    // 4 groups with 3 pots are ruled out, so 3 groups with 3 pots have the most teams.
    private static final int MAX_TEAMS = 9;
    private static final int REGIONS = 6;
    private static final int MIN_BOUND = 1;
    private static final int MAX_BOUND = 3;
    // 4 groups with 2 pots have the most results, and as many orders: 24 * 24.
    private static final int MAX_RESULTS = 576;

    private final Bowl bowl;
    private final ResultList openList;
    private boolean isOpenListFresh;
    private final ResultList endList;
    private boolean isEndListFresh;
    private final int[] seats;
    private final int[] drawnTeams;
    private final int[] openBefore;
    private int drawnCount;

    public CupDraw() {
        bowl = new Bowl();
        openList = new ResultList();
        endList = new ResultList();
        seats = new int[MAX_TEAMS];
        drawnTeams = new int[MAX_TEAMS];
        openBefore = new int[MAX_TEAMS];
        startWith(MIN_GROUPS, MIN_POTS);
    }

    // ---- the bowl

    public int lay(int groups, int pots) throws IllegalArgumentException {
        if (groups < MIN_GROUPS || groups > MAX_GROUPS || pots < MIN_POTS || pots > MAX_POTS
                || groups == MAX_GROUPS && pots == MAX_POTS) {
            throw new IllegalArgumentException("groups or pots out of range");
        }
        startWith(groups, pots);
        return bowl.teams;
    }

    public int setRegion(int team, int region)
            throws IndexOutOfBoundsException, IllegalStateException {
        if (!bowl.hasTeam(team) || !bowl.hasRegion(region)) {
            throw new IndexOutOfBoundsException("no such team or region");
        }
        requireNothingDrawn();
        int before = bowl.regions[team];
        bowl.regions[team] = region;
        forgetResults();
        return before;
    }

    public int setBound(int region, int bound)
            throws IndexOutOfBoundsException, IllegalArgumentException, IllegalStateException {
        if (!bowl.hasRegion(region)) {
            throw new IndexOutOfBoundsException("no such region");
        }
        if (bound < MIN_BOUND || bound > MAX_BOUND) {
            throw new IllegalArgumentException("bound out of range");
        }
        requireNothingDrawn();
        int before = bowl.bounds[region];
        bowl.bounds[region] = bound;
        forgetResults();
        return before;
    }

    public boolean setApart(int team, int other, boolean isApart)
            throws IndexOutOfBoundsException, IllegalArgumentException, IllegalStateException {
        requireTwoTeams(team, other);
        requireNothingDrawn();
        forgetResults();
        return Bowl.setPair(bowl.apart, team, other, isApart);
    }

    public boolean setOtherDays(int team, int other, boolean isOther)
            throws IndexOutOfBoundsException, IllegalArgumentException, IllegalStateException {
        requireTwoTeams(team, other);
        requireNothingDrawn();
        forgetResults();
        return Bowl.setPair(bowl.otherDays, team, other, isOther);
    }

    // ---- the draw

    public int draw(int k) throws IllegalStateException, IndexOutOfBoundsException {
        if (drawnCount >= bowl.teams || openResults().size == 0) {
            throw new IllegalStateException("all balls were drawn, or there is no open result");
        }
        int team = findBall(k);
        if (team == NONE) {
            throw new IndexOutOfBoundsException("no such ball");
        }
        isEndListFresh = false;
        seat(team);
        return seats[team];
    }

    public int undo() throws IllegalStateException {
        if (drawnCount <= 0) {
            throw new IllegalStateException("none was drawn");
        }
        isEndListFresh = false;
        return unseat();
    }

    public int drawn() {
        return drawnCount;
    }

    public int pot() {
        for (int pot = 0; pot < bowl.pots; pot++) {
            if (countLeft(pot) > 0) {
                return pot;
            }
        }
        return NONE;
    }

    public int left() {
        int pot = pot();
        return pot == NONE ? 0 : countLeft(pot);
    }

    public int ballAt(int k) throws IndexOutOfBoundsException {
        int team = findBall(k);
        if (team == NONE) {
            throw new IndexOutOfBoundsException("no such ball");
        }
        return team;
    }

    public int groupOf(int team) throws IndexOutOfBoundsException {
        requireTeam(team);
        return seats[team];
    }

    public int teamAt(int group, int pot) throws IndexOutOfBoundsException {
        if (!bowl.hasGroup(group) || !bowl.hasPot(pot)) {
            throw new IndexOutOfBoundsException("no such group or pot");
        }
        int first = pot * bowl.groups;
        for (int team = first; team < first + bowl.groups; team++) {
            if (seats[team] == group) {
                return team;
            }
        }
        return NONE;
    }

    // ---- what can come

    public int results() {
        return openResults().size;
    }

    public boolean fits(int team, int group) throws IndexOutOfBoundsException {
        requireTeamAndGroup(team, group);
        return openResults().countInGroup(team, group) > 0;
    }

    public int forced(int team) throws IndexOutOfBoundsException {
        requireTeam(team);
        ResultList open = openResults();
        int lowest = open.lowestGroup(team);
        boolean isOnly = lowest != NONE && open.countInGroup(team, lowest) == open.size;
        return isOnly ? lowest : NONE;
    }

    public int evenly(int team, int group) throws IndexOutOfBoundsException {
        requireTeamAndGroup(team, group);
        return openResults().countInGroup(team, group);
    }

    public int orders() {
        int product = 1;
        for (int pot = 0; pot < bowl.pots; pot++) {
            product *= factorial(countLeft(pot));
        }
        return product;
    }

    public int chances(int team, int group) throws IndexOutOfBoundsException {
        requireTeamAndGroup(team, group);
        return endResults().countInGroup(team, group);
    }

    public int pairings(int team, int other) throws IndexOutOfBoundsException {
        requireTeam(team);
        requireTeam(other);
        return endResults().countTogether(team, other);
    }

    // ---- what is asked of arguments and of the moment

    private void requireTeam(int team) {
        if (!bowl.hasTeam(team)) {
            throw new IndexOutOfBoundsException("no such team");
        }
    }

    private void requireTeamAndGroup(int team, int group) {
        if (!bowl.hasTeam(team) || !bowl.hasGroup(group)) {
            throw new IndexOutOfBoundsException("no such team or group");
        }
    }

    private void requireTwoTeams(int team, int other) {
        requireTeam(team);
        requireTeam(other);
        if (team == other) {
            throw new IllegalArgumentException("both teams are the same");
        }
    }

    private void requireNothingDrawn() {
        if (drawnCount > 0) {
            throw new IllegalStateException("a ball was drawn");
        }
    }

    // ---- the balls

    private void startWith(int groups, int pots) {
        bowl.reset(groups, pots);
        for (int team = 0; team < seats.length; team++) {
            seats[team] = NONE;
        }
        drawnCount = 0;
        forgetResults();
    }

    private int countLeft(int pot) {
        int first = pot * bowl.groups;
        int count = 0;
        for (int team = first; team < first + bowl.groups; team++) {
            if (seats[team] == NONE) {
                count++;
            }
        }
        return count;
    }

    private int findBall(int k) {
        int pot = pot();
        if (pot == NONE || k < 0) {
            return NONE;
        }
        int first = pot * bowl.groups;
        int ahead = k;
        for (int team = first; team < first + bowl.groups; team++) {
            if (seats[team] == NONE) {
                if (ahead == 0) {
                    return team;
                }
                ahead--;
            }
        }
        return NONE;
    }

    /** Asks for an open result and for a ball that is left. */
    private void seat(int team) {
        int group = openList.lowestGroup(team);
        openBefore[drawnCount] = openList.size;
        openList.narrow(team, group);
        seats[team] = group;
        drawnTeams[drawnCount] = team;
        drawnCount++;
    }

    /** Asks for a ball that was drawn. */
    private int unseat() {
        drawnCount--;
        int team = drawnTeams[drawnCount];
        seats[team] = NONE;
        openList.widen(openBefore[drawnCount]);
        return team;
    }

    private static int factorial(int n) {
        int product = 1;
        for (int factor = 2; factor <= n; factor++) {
            product *= factor;
        }
        return product;
    }

    // ---- the results

    private void forgetResults() {
        isOpenListFresh = false;
        isEndListFresh = false;
    }

    private ResultList openResults() {
        // Rules change only while nothing is drawn, so that all lawful results are open then.
        if (!isOpenListFresh) {
            openList.clear();
            bowl.addLawful(openList);
            isOpenListFresh = true;
        }
        return openList;
    }

    /** The results of all orders that are left, one for each order. */
    private ResultList endResults() {
        if (!isEndListFresh) {
            endList.clear();
            if (openResults().size > 0) {
                followOrders(drawnCount);
            }
            isEndListFresh = true;
        }
        return endList;
    }

    private void followOrders(int depth) {
        if (depth >= bowl.teams) {
            endList.add(openList.first());
            return;
        }
        int balls = left();
        for (int k = 0; k < balls; k++) {
            followBall(findBall(k), depth);
        }
    }

    private void followBall(int team, int depth) {
        if (team != NONE) {
            seat(team);
            followOrders(depth + 1);
            unseat();
        }
    }

    /** The teams with their rules. A set of teams is an int with the bit t for the team t. */
    private static final class Bowl {
        private int groups;
        private int pots;
        private int teams;
        private final int[] regions = new int[MAX_TEAMS];
        private final int[] bounds = new int[REGIONS];
        private final int[] apart = new int[MAX_TEAMS];
        private final int[] otherDays = new int[MAX_TEAMS];
        private final int[] potMates = new int[MAX_TEAMS];
        // Empty but for the time of addLawful, which takes out each team that it puts in.
        private final int[] members = new int[MAX_GROUPS];

        void reset(int newGroups, int newPots) {
            groups = newGroups;
            pots = newPots;
            teams = newGroups * newPots;
            for (int region = 0; region < REGIONS; region++) {
                bounds[region] = MAX_BOUND;
            }
            for (int team = 0; team < MAX_TEAMS; team++) {
                regions[team] = 0;
                apart[team] = 0;
                otherDays[team] = 0;
            }
            for (int pot = 0; pot < pots; pot++) {
                resetPot(pot * groups);
            }
        }

        private void resetPot(int first) {
            int wholePot = ((1 << groups) - 1) << first;
            for (int team = first; team < first + groups; team++) {
                potMates[team] = wholePot;
            }
        }

        boolean hasTeam(int team) {
            return team >= 0 && team < teams;
        }

        boolean hasRegion(int region) {
            return region >= 0 && region < REGIONS;
        }

        boolean hasGroup(int group) {
            return group >= 0 && group < groups;
        }

        boolean hasPot(int pot) {
            return pot >= 0 && pot < pots;
        }

        static boolean setPair(int[] partners, int team, int other, boolean isPair) {
            boolean before = ((partners[team] >> other) & 1) != 0;
            if (isPair) {
                partners[team] |= 1 << other;
                partners[other] |= 1 << team;
            } else {
                partners[team] &= ~(1 << other);
                partners[other] &= ~(1 << team);
            }
            return before;
        }

        void addLawful(ResultList list) {
            placeFrom(0, 0, list);
        }

        private void placeFrom(int team, int result, ResultList list) {
            if (team >= teams) {
                list.add(result);
                return;
            }
            for (int group = 0; group < groups; group++) {
                placeIn(group, team, result, list);
            }
        }

        private void placeIn(int group, int team, int result, ResultList list) {
            if (admits(group, team)) {
                members[group] |= 1 << team;
                placeFrom(team + 1, ResultList.with(result, team, group), list);
                members[group] &= ~(1 << team);
            }
        }

        private boolean admits(int group, int team) {
            return (members[group] & (potMates[team] | apart[team])) == 0
                    && (playersOnDay(group) & otherDays[team]) == 0
                    && countOfRegion(group, regions[team]) < bounds[regions[team]];
        }

        private int playersOnDay(int group) {
            int players = 0;
            for (int same = group & 1; same < groups; same += 2) {
                players |= members[same];
            }
            return players;
        }

        private int countOfRegion(int group, int region) {
            int count = 0;
            for (int team = 0; team < teams; team++) {
                if (((members[group] >> team) & 1) != 0 && regions[team] == region) {
                    count++;
                }
            }
            return count;
        }
    }

    /** Results, each an int with two bits for the group of each team. */
    private static final class ResultList {
        private final int[] items = new int[MAX_RESULTS];
        private int size;

        static int with(int result, int team, int group) {
            return result | (group << (2 * team));
        }

        static int groupIn(int result, int team) {
            return (result >> (2 * team)) & 3;
        }

        void clear() {
            size = 0;
        }

        void add(int result) {
            if (size < items.length) {
                items[size] = result;
                size++;
            }
        }

        int first() {
            return items[0];
        }

        int countInGroup(int team, int group) {
            int count = 0;
            for (int i = 0; i < size; i++) {
                if (groupIn(items[i], team) == group) {
                    count++;
                }
            }
            return count;
        }

        int countTogether(int team, int other) {
            int count = 0;
            for (int i = 0; i < size; i++) {
                if (groupIn(items[i], team) == groupIn(items[i], other)) {
                    count++;
                }
            }
            return count;
        }

        int lowestGroup(int team) {
            int lowest = NONE;
            for (int i = 0; i < size; i++) {
                int group = groupIn(items[i], team);
                if (lowest == NONE || group < lowest) {
                    lowest = group;
                }
            }
            return lowest;
        }

        /**
         * Keeps the results with the team in the group. The others stay behind them in the row,
         * so that widen has them back without a copy: no narrowing moves a result across an older
         * size.
         */
        void narrow(int team, int group) {
            int kept = 0;
            for (int i = 0; i < size; i++) {
                int result = items[i];
                if (groupIn(result, team) == group) {
                    items[i] = items[kept];
                    items[kept] = result;
                    kept++;
                }
            }
            size = kept;
        }

        void widen(int sizeBefore) {
            size = sizeBefore;
        }
    }
}

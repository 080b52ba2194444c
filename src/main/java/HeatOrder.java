/**
 * Puts heats in order over a melt shop and two casters, at the least cost.
 * The numbered promises that it keeps stand in ../shared/DOC.md.
 */
public final class HeatOrder {
    private static final int MOST_HEATS = 6;
    private static final int GRADES = 6;
    private static final int CASTERS = 2;
    private static final int MOST_NODES = 100000;
    private static final int NOT_ALLOWED = -1;
    private static final int NONE = -1;

    // A step as a told plan writes it: four bits, the heat in three of them, the caster above.
    private static final int STEP_BITS = 4;
    private static final int HEAT_BITS = 3;
    private static final int HEAT_MASK = 7;

    private final Shop shop;
    private final Search search;
    private final Plan plan;
    private boolean hasPlan;
    private boolean hasPlanning;

    public HeatOrder() {
        shop = new Shop();
        search = new Search(shop);
        plan = new Plan(shop);
        hasPlan = false;
        hasPlanning = false;
    }

    public int heat(int grade, int width, int melt, int cast, int due, int casters)
            throws IllegalStateException, IllegalArgumentException {
        if (shop.heats >= MOST_HEATS) {
            throw new IllegalStateException("there are 6 heats");
        }
        boolean metal = within(grade, 0, GRADES - 1) && within(width, 100, 2000);
        boolean times = within(melt, 1, 500) && within(cast, 1, 500) && isDue(due);
        if (!metal || !times || !within(casters, 1, 3)) {
            throw new IllegalArgumentException("a heat that can't be");
        }
        forget();
        return shop.add(grade, width, melt, cast, due, casters);
    }

    public void due(int heat, int minute) throws IndexOutOfBoundsException, IllegalArgumentException {
        if (!within(heat, 0, shop.heats - 1)) {
            throw new IndexOutOfBoundsException("no such heat");
        }
        if (!isDue(minute)) {
            throw new IllegalArgumentException("a due minute that can't be");
        }
        forget();
        shop.due[heat] = minute;
    }

    public void rules(int hold, int change, int gap, int life, int jump) throws IllegalArgumentException {
        boolean minutes = within(hold, 0, 1000) && within(change, 0, 500) && within(gap, 0, 500);
        if (!minutes || !within(life, 1, 20) || !within(jump, 0, 2000)) {
            throw new IllegalArgumentException("rules that can't be");
        }
        forget();
        shop.hold = hold;
        shop.change = change;
        shop.gap = gap;
        shop.life = life;
        shop.jump = jump;
    }

    public void costs(int change, int late) throws IllegalArgumentException {
        if (!within(change, 0, 100000) || !within(late, 0, 1000)) {
            throw new IllegalArgumentException("costs that can't be");
        }
        forget();
        shop.changeCost = change;
        shop.lateCost = late;
    }

    public void move(int from, int to, int cost) throws IndexOutOfBoundsException, IllegalArgumentException {
        if (!within(from, 0, GRADES - 1) || !within(to, 0, GRADES - 1)) {
            throw new IndexOutOfBoundsException("no such grades");
        }
        if (cost != NOT_ALLOWED && !within(cost, 0, 10000)) {
            throw new IllegalArgumentException("a cost that can't be");
        }
        forget();
        shop.moveCost[from * GRADES + to] = cost;
    }

    public int run(int nodes) throws IllegalArgumentException {
        if (!within(nodes, 0, MOST_NODES)) {
            throw new IllegalArgumentException("so many nodes can't be");
        }
        search.findBest(nodes);
        hasPlanning = true;
        hasPlan = search.found && plan.lay(search.bestSteps, shop.heats);
        return hasPlan ? plan.costOf(shop.heats) : NONE;
    }

    public int planned(int what) throws IndexOutOfBoundsException, IllegalStateException {
        if (!within(what, 0, 1)) {
            throw new IndexOutOfBoundsException("no such what");
        }
        if (!hasPlanning) {
            throw new IllegalStateException("there was no planning");
        }
        if (what == 0) {
            return search.spent ? 0 : 1;
        }
        return search.nodes;
    }

    public int step(int k, int what) throws IndexOutOfBoundsException, IllegalStateException {
        if (!hasPlan) {
            throw new IllegalStateException("there is no plan");
        }
        if (!within(k, 0, shop.heats - 1) || !within(what, 0, 6)) {
            throw new IndexOutOfBoundsException("no such step or what");
        }
        switch (what) {
            case 0: return plan.heat[k];
            case 1: return plan.caster[k];
            case 2: return plan.meltBegin[k];
            case 3: return plan.meltEnd[k];
            case 4: return plan.castBegin[k];
            case 5: return plan.castEnd[k];
            default: return plan.change[k];
        }
    }

    public int told(int what) throws IndexOutOfBoundsException, IllegalStateException {
        if (!within(what, 0, 3)) {
            throw new IndexOutOfBoundsException("no such what");
        }
        if (!hasPlan) {
            throw new IllegalStateException("there is no plan");
        }
        switch (what) {
            case 0: return plan.costOf(shop.heats);
            case 1: return plan.changes[shop.heats];
            case 2: return plan.late[shop.heats];
            default: return plan.moves[shop.heats];
        }
    }

    public int tell(int steps, int n) throws IndexOutOfBoundsException, UnsupportedOperationException {
        if (n != shop.heats || !namesEachHeat(steps, n)) {
            throw new IndexOutOfBoundsException("not each heat once");
        }
        // The search's row is tried first, so that a refused plan leaves the one that stands alone.
        if (!search.tried.lay(steps, n)) {
            throw new UnsupportedOperationException("a caster may not cast it, or it is not good");
        }
        hasPlan = plan.lay(steps, n);
        return plan.costOf(n);
    }

    public int bound() {
        int sum = 0;
        for (int heat = 0; heat < shop.heats; heat++) {
            sum += shop.lateMinutes(heat, shop.melt[heat] + shop.cast[heat]) * shop.lateCost;
        }
        return sum;
    }

    public int clash() {
        int left = shop.allHeats();
        if (search.hasGoodPlan(left)) {
            return 0;
        }
        for (int heat = 0; heat < shop.heats; heat++) {
            int others = left & ~(1 << heat);
            if (!search.hasGoodPlan(others)) {
                left = others;
            }
        }
        return left;
    }

    private void forget() {
        hasPlan = false;
        hasPlanning = false;
    }

    private static boolean within(int value, int least, int most) {
        return value >= least && value <= most;
    }

    private static boolean isDue(int minute) {
        return within(minute, 0, 10000);
    }

    /** As many steps as there are heats, none of them twice, is each heat once. */
    private boolean namesEachHeat(int steps, int n) {
        int left = shop.allHeats();
        for (int k = 0; k < n; k++) {
            int bit = 1 << heatOf(steps, k);
            if ((left & bit) == 0) {
                return false;
            }
            left &= ~bit;
        }
        return true;
    }

    private static int heatOf(int steps, int k) {
        return steps >> (STEP_BITS * k) & HEAT_MASK;
    }

    private static int casterOf(int steps, int k) {
        return steps >> (STEP_BITS * k + HEAT_BITS) & 1;
    }

    private static int withStep(int steps, int k, int heat, int caster) {
        return steps | (heat | caster << HEAT_BITS) << (STEP_BITS * k);
    }

    /** What has been told: heats, rules, costs and moves. */
    private static final class Shop {
        int heats = 0;
        final int[] grade = new int[MOST_HEATS];
        final int[] width = new int[MOST_HEATS];
        final int[] melt = new int[MOST_HEATS];
        final int[] cast = new int[MOST_HEATS];
        final int[] due = new int[MOST_HEATS];
        final int[] casters = new int[MOST_HEATS];
        int hold = 60;
        int change = 40;
        int gap = 10;
        int life = 4;
        int jump = 200;
        int changeCost = 500;
        int lateCost = 1;
        final int[] moveCost = new int[GRADES * GRADES];

        Shop() {
            for (int from = 0; from < GRADES; from++) {
                for (int to = 0; to < GRADES; to++) {
                    moveCost[from * GRADES + to] = from == to ? 0 : NOT_ALLOWED;
                }
            }
        }

        /** The new heat's number; NONE, and nothing is added, when there is no room. */
        int add(int itsGrade, int itsWidth, int itsMelt, int itsCast, int itsDue, int itsCasters) {
            if (heats >= MOST_HEATS) {
                return NONE;
            }
            grade[heats] = itsGrade;
            width[heats] = itsWidth;
            melt[heats] = itsMelt;
            cast[heats] = itsCast;
            due[heats] = itsDue;
            casters[heats] = itsCasters;
            heats++;
            return heats - 1;
        }

        int allHeats() {
            return (1 << heats) - 1;
        }

        boolean mayCast(int heat, int caster) {
            return (casters[heat] >> caster & 1) == 1;
        }

        int moveBetween(int heat, int next) {
            return moveCost[grade[heat] * GRADES + grade[next]];
        }

        int lateMinutes(int heat, int end) {
            return Math.max(0, end - due[heat]);
        }
    }

    /**
     * Steps, row by row. Step k is worked out from the steps ahead of it alone,
     * so a search goes back by putting another step over it: there is nothing to undo.
     */
    private static final class Plan {
        private final Shop shop;
        final int[] heat = new int[MOST_HEATS];
        final int[] caster = new int[MOST_HEATS];
        final int[] meltBegin = new int[MOST_HEATS];
        final int[] meltEnd = new int[MOST_HEATS];
        final int[] castBegin = new int[MOST_HEATS];
        final int[] castEnd = new int[MOST_HEATS];
        final int[] change = new int[MOST_HEATS];
        /** How many heats the tundish of step k has cast, with step k's. */
        private final int[] tundish = new int[MOST_HEATS];
        // Sums over the first 0, 1, .. steps; those over no steps stay 0.
        final int[] changes = new int[MOST_HEATS + 1];
        final int[] late = new int[MOST_HEATS + 1];
        final int[] moves = new int[MOST_HEATS + 1];

        Plan(Shop shop) {
            this.shop = shop;
        }

        /** Puts n steps in; whether their casters may cast them and they are a good plan. */
        boolean lay(int steps, int n) {
            for (int k = 0; k < n; k++) {
                if (!put(k, heatOf(steps, k), casterOf(steps, k))) {
                    return false;
                }
            }
            return true;
        }

        /** Puts in step k; whether the caster may cast it and the plan is good so far. */
        boolean put(int k, int itsHeat, int itsCaster) {
            if (!within(k, 0, MOST_HEATS - 1) || !within(itsHeat, 0, shop.heats - 1)) {
                return false;
            }
            if (!shop.mayCast(itsHeat, itsCaster)) {
                return false;
            }
            heat[k] = itsHeat;
            caster[k] = itsCaster;
            meltBegin[k] = k == 0 ? 0 : meltEnd[k - 1];
            meltEnd[k] = meltBegin[k] + shop.melt[itsHeat];
            castStep(k, latestOn(itsCaster, k));
            return castBegin[k] - meltEnd[k] <= shop.hold;
        }

        int costOf(int steps) {
            return moves[steps] + changes[steps] * shop.changeCost + late[steps] * shop.lateCost;
        }

        /** The latest step ahead of step k that this caster cast, or NONE. */
        private int latestOn(int itsCaster, int k) {
            for (int j = k - 1; j >= 0; j--) {
                if (caster[j] == itsCaster) {
                    return j;
                }
            }
            return NONE;
        }

        private void castStep(int k, int before) {
            boolean follows = before != NONE;
            int move = follows ? shop.moveBetween(heat[before], heat[k]) : NOT_ALLOWED;
            boolean inSequence = move != NOT_ALLOWED && goesOn(before, k);
            change[k] = follows && !inSequence ? 1 : 0;
            tundish[k] = inSequence ? tundish[before] + 1 : 1;
            int ready = follows ? castEnd[before] + change[k] * shop.change : 0;
            castBegin[k] = Math.max(meltEnd[k], ready);
            castEnd[k] = castBegin[k] + shop.cast[heat[k]];
            changes[k + 1] = changes[k] + change[k];
            late[k + 1] = late[k] + shop.lateMinutes(heat[k], castEnd[k]);
            moves[k + 1] = moves[k] + (inSequence ? move : 0);
        }

        /** Whether step k can be in sequence behind that one, were the move allowed. */
        private boolean goesOn(int before, int k) {
            int apart = Math.abs(shop.width[heat[before]] - shop.width[heat[k]]);
            return apart <= shop.jump
                    && tundish[before] < shop.life
                    && meltEnd[k] - castEnd[before] <= shop.gap;
        }
    }

    /**
     * Tries steps by heats, of each by casters. Each level takes a heat from those that are left,
     * and a plan refuses a step behind its last row, so no search goes deeper than MOST_HEATS.
     */
    private static final class Search {
        private final Shop shop;
        final Plan tried;
        private int limit = 0;
        int nodes = 0;
        boolean spent = false;
        boolean found = false;
        int bestSteps = 0;
        private int bestCost = 0;

        Search(Shop shop) {
            this.shop = shop;
            tried = new Plan(shop);
        }

        void findBest(int most) {
            limit = most;
            nodes = 0;
            spent = false;
            found = false;
            branch(0, shop.allHeats(), 0);
        }

        /** Goes on behind k steps with the heats that are left, as bits. */
        private void branch(int k, int left, int steps) {
            if (left == 0) {
                found = true;
                bestCost = tried.costOf(k);
                bestSteps = steps;
                return;
            }
            for (int heat = 0; heat < shop.heats && !spent; heat++) {
                if ((left >> heat & 1) == 0) {
                    continue;
                }
                for (int caster = 0; caster < CASTERS && !spent; caster++) {
                    if (tried.put(k, heat, caster) && isWorthMore(k + 1)) {
                        branch(k + 1, left & ~(1 << heat), withStep(steps, k, heat, caster));
                    }
                }
            }
        }

        /** Takes a node for a step that is good; whether there was one and the cost is below the best. */
        private boolean isWorthMore(int steps) {
            if (nodes >= limit) {
                spent = true;
                return false;
            }
            nodes++;
            return !found || tried.costOf(steps) < bestCost;
        }

        /** Whether some plan of these heats alone, as bits, is good. */
        boolean hasGoodPlan(int heats) {
            return canEnd(0, heats);
        }

        /** Whether the k steps can be ended as a good plan with the heats that are left, as bits. */
        private boolean canEnd(int k, int left) {
            if (left == 0) {
                return true;
            }
            for (int heat = 0; heat < shop.heats; heat++) {
                if ((left >> heat & 1) == 0) {
                    continue;
                }
                for (int caster = 0; caster < CASTERS; caster++) {
                    if (tried.put(k, heat, caster) && canEnd(k + 1, left & ~(1 << heat))) {
                        return true;
                    }
                }
            }
            return false;
        }
    }
}

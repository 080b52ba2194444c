/**
 * Sentence by sentence, the cases at the edge that are no bound of an argument: no heats and six,
 * no plan yet and a plan that is gone, no node left and just enough, plans that cost the same,
 * minutes that meet, bounds of nothing and of all, clashes of none and of all.
 */
public final class EdgeTest {
    private static final Class<IndexOutOfBoundsException> INDEX = IndexOutOfBoundsException.class;
    private static final Class<IllegalStateException> TURN = IllegalStateException.class;
    private static final Class<UnsupportedOperationException> MEANING = UnsupportedOperationException.class;
    /** All steps of all plans of six heats that each caster may cast: 12 + 12 * 10 + 12 * 10 * 8 + .. */
    private static final int ALL_STEPS = 75972;

    private interface Asked {
        void on(HeatOrder x);
    }

    public static void main(String[] args) {
        newObjectHasNoHeats();
        newObjectHasNoPlan();
        noHeatsHaveAPlanOfNoSteps();
        planIsGone();
        planIsGoneThoughNothingIsNew();
        planIsGoneAndToldAnew();
        planningIsSinceTheLatestTelling();
        meltingIsWithoutABreak();
        firstHeatOnACasterBeginsWhenItIsMelted();
        lastHeatOfTheCasterCounts();
        moveIsFromTheLastHeatsGrade();
        tundishIsNewBehindAChange();
        castersHaveTundishesOfTheirOwn();
        lateIsBehindTheDueMinute();
        costIsOfMovesChangesAndLateMinutes();
        firstOfTheBestByHeats();
        firstOfTheBestByCasters();
        firstOfTheBestStepByStep();
        bestIsNotTheFirstFound();
        noNodeAtAll();
        justEnoughNodes();
        justEnoughNodesOfOneHeat();
        stepsThatAreNotGoodTakeNoNode();
        aCasterThatMayNotTakesNoNode();
        givenUpAtTheSameCost();
        givenUpTakesANode();
        goesOnBelowTheBestCost();
        mostNodesThatThereAre();
        noneFoundIsNoPlan();
        runTakesThePlaceOfAPlan();
        tellTakesThePlaceOfAPlan();
        toldPlanIsNoPlanning();
        tellWithFewSteps();
        tellWithAllBits();
        tellIsGoodToTheLastStep();
        boundOfNoneAndOfSix();
        boundAtTheDueMinute();
        boundIsAsToldLast();
        clashOfNoHeats();
        clashOfOneHeat();
        clashOfAllSix();
        clashFromHeatZeroOn();
        clashLeavesOutForGood();
        clashOfTheFirstHeats();
        clashNeedsNoPlanning();
        manyCallsOnOneObject();
        Check.end();
    }

    /** Promise 1: "No heats". */
    private static void newObjectHasNoHeats() {
        HeatOrder x = new HeatOrder();
        Check.refused("new: no heat 0", INDEX, () -> x.due(0, 0));
        Check.refused("new: a plan of one step", INDEX, () -> x.tell(0, 1));
        Check.due("new: the first heat's number", 0, () -> x.heat(0, 1000, 60, 50, 100, 3));
    }

    /** Promise 1: "no plan". */
    private static void newObjectHasNoPlan() {
        HeatOrder x = new HeatOrder();
        noPlan("new", x);
        noPlanning("new", x);
        Check.due("new: bound", 0, x::bound);
        Check.due("new: clash", 0, x::clash);
        noPlan("new, asked for bound and clash", x);
        noPlanning("new, asked for bound and clash", x);
    }

    private static void noHeatsHaveAPlanOfNoSteps() {
        for (int nodes : new int[] {0, 1, 100000}) {
            HeatOrder x = new HeatOrder();
            Check.due("no heats, " + nodes + " nodes", 0, () -> x.run(nodes));
            planning("no heats, " + nodes + " nodes", x, 1, 0);
            sums("no heats, " + nodes + " nodes", x, 0, 0, 0, 0);
            Check.refused("no heats: step 0", INDEX, () -> x.step(0, 0));
        }
        HeatOrder y = new HeatOrder();
        Check.due("no heats: tell", 0, () -> y.tell(0, 0));
        sums("no heats: tell", y, 0, 0, 0, 0);
        Check.refused("no heats: step 0 of a told plan", INDEX, () -> y.step(0, 0));
        noPlanning("no heats: tell", y);
    }

    /** Promises 2 to 6: "the plan is gone", be it found or told. */
    private static void planIsGone() {
        gone("heat", x -> x.heat(0, 1000, 10, 10, 10000, 3));
        gone("due", x -> x.due(1, 9999));
        gone("rules", x -> x.rules(61, 40, 10, 4, 200));
        gone("costs", x -> x.costs(501, 1));
        gone("move", x -> x.move(0, 0, 1));
    }

    private static void planIsGoneThoughNothingIsNew() {
        gone("the same due", x -> x.due(1, 10000));
        gone("the same rules", x -> x.rules(60, 40, 10, 4, 200));
        gone("the same costs", x -> x.costs(500, 1));
        gone("the same move", x -> x.move(0, 0, 0));
        gone("a move of grades that no heat has", x -> x.move(4, 5, -1));
    }

    private static void gone(String name, Asked call) {
        HeatOrder x = Plans.heats(2, 3);
        x.run(100000);
        call.on(x);
        noPlan(name + " behind a run", x);
        noPlanning(name + " behind a run", x);
        HeatOrder y = Plans.heats(2, 3);
        y.tell(0x10, 2);
        call.on(y);
        noPlan(name + " behind a telling", y);
        noPlanning(name + " behind a telling", y);
        HeatOrder z = Plans.heats(2, 3);
        z.run(0);
        call.on(z);
        noPlan(name + " behind a run in vain", z);
        noPlanning(name + " behind a run in vain", z);
    }

    private static void planIsGoneAndToldAnew() {
        HeatOrder x = Plans.heats(2, 3);
        x.run(100000);
        x.due(0, 5);
        Check.due("told anew", 15, () -> x.tell(0x10, 2));
        sums("told anew", x, 15, 0, 15, 0);
        noPlanning("told anew", x);
        Check.due("run anew", 15, () -> x.run(100000));
        Check.due("run anew: proved", 1, () -> x.planned(0));
    }

    /** Promise 8: "turn: there was none since a heat, a due minute, rules, costs or a move was told". */
    private static void planningIsSinceTheLatestTelling() {
        HeatOrder x = new HeatOrder();
        noPlanning("ahead of all", x);
        x.run(0);
        planning("no heats", x, 1, 0);
        x.heat(0, 1000, 10, 10, 10000, 1);
        noPlanning("behind a heat", x);
        x.run(100000);
        planning("one heat", x, 1, 1);
        x.run(0);
        planning("the latest one, in vain", x, 0, 0);
        x.run(1);
        planning("the latest one", x, 1, 1);
    }

    /** "Heats are melted in this order, one behind the other without a break, from minute 0 on." */
    private static void meltingIsWithoutABreak() {
        HeatOrder x = new HeatOrder();
        x.heat(0, 1000, 1, 500, 10000, 1);
        x.heat(0, 1000, 500, 1, 10000, 2);
        x.heat(0, 1000, 1, 1, 10000, 1);
        x.heat(0, 1000, 2, 1, 10000, 2);
        x.rules(1000, 0, 500, 20, 2000);
        Check.due("four heats", 0, () -> x.tell(0xB290, 4));
        int[] ends = {0, 1, 501, 502, 504};
        for (int k = 0; k < 4; k++) {
            int at = k;
            Check.due("melting begins at the end of the one ahead, step " + k, ends[k], () -> x.step(at, 2));
            Check.due("melting ends, step " + k, ends[k + 1], () -> x.step(at, 3));
        }
    }

    /** "A heat on a caster that has cast none begins when it is melted." */
    private static void firstHeatOnACasterBeginsWhenItIsMelted() {
        HeatOrder x = new HeatOrder();
        x.heat(0, 100, 60, 500, 10000, 3);
        x.heat(5, 2000, 500, 50, 10000, 3);
        x.rules(0, 500, 0, 1, 0);
        Check.due("both are first ones", 0, () -> x.tell(0x90, 2));
        Plans.stepIs("first on caster 0", x, 0, 0, 0, 0, 60, 60, 560, 0);
        Plans.stepIs("first on caster 1", x, 1, 1, 1, 60, 560, 560, 610, 0);
        Check.due("both are first ones, casters changed", 0, () -> x.tell(0x18, 2));
        Plans.stepIs("first on caster 1", x, 0, 0, 1, 0, 60, 60, 560, 0);
        Plans.stepIs("first on caster 0", x, 1, 1, 0, 60, 560, 560, 610, 0);
    }

    /** "with e the minute at which the caster's last heat ended": not the other caster's, nor its first one's. */
    private static void lastHeatOfTheCasterCounts() {
        HeatOrder x = new HeatOrder();
        x.heat(0, 1000, 10, 10, 10000, 3);
        x.heat(0, 1000, 10, 200, 10000, 3);
        x.heat(0, 1000, 10, 10, 10000, 3);
        x.heat(0, 1000, 10, 10, 10000, 3);
        // Heat 1 holds caster 1 up to minute 220; caster 0 goes on: 10 .. 20, 30 .. 40, 40 .. 50.
        Check.due("caster 0 does not wait for caster 1", 0, () -> x.tell(0x3290, 4));
        Plans.stepIs("step 2", x, 2, 2, 0, 20, 30, 30, 40, 0);
        Plans.stepIs("step 3", x, 3, 3, 0, 30, 40, 40, 50, 0);
        Check.refused("behind heat 1 it waits too long", MEANING, () -> x.tell(0x3A90, 4));
    }

    /** "the move from that heat's grade to its grade is allowed". */
    private static void moveIsFromTheLastHeatsGrade() {
        HeatOrder x = new HeatOrder();
        x.heat(0, 1000, 10, 10, 10000, 1);
        x.heat(1, 1000, 10, 10, 10000, 3);
        x.heat(2, 1000, 10, 10, 10000, 1);
        x.move(0, 1, 1);
        x.move(1, 2, 20);
        x.move(0, 2, 300);
        Check.due("0, 1, 2 on caster 0", 21, () -> x.tell(0x210, 3));
        Check.due("0, 2 on caster 0", 300, () -> x.tell(0x290, 3));
        x.move(0, 1, -1);
        x.rules(60, 5, 10, 4, 200);
        Check.due("behind a change the move is from the last heat's, too", 520, () -> x.tell(0x210, 3));
        sums("behind a change", x, 520, 1, 0, 20);
    }

    /** "there is a CHANGE ahead of it (a new tundish)": its life begins anew, also ahead of its end. */
    private static void tundishIsNewBehindAChange() {
        HeatOrder x = new HeatOrder();
        int[] grades = {0, 0, 1, 1, 1, 1};
        for (int grade : grades) {
            x.heat(grade, 1000, 10, 10, 10000, 1);
        }
        x.rules(1000, 0, 10, 3, 200);
        // Two heats of grade 0, a change for the grade, three of grade 1, a change for the life.
        Check.due("a life of 3", 1000, () -> x.tell(0x543210, 6));
        int[] wants = {0, 0, 1, 0, 0, 1};
        for (int k = 0; k < 6; k++) {
            int at = k;
            Check.due("a life of 3: step " + k, wants[k], () -> x.step(at, 6));
        }
    }

    private static void castersHaveTundishesOfTheirOwn() {
        HeatOrder x = Plans.heats(6, 3);
        x.rules(1000, 0, 500, 2, 200);
        Check.due("three each with a life of 2", 1000, () -> x.tell(0xD4B290, 6));
        int[] wants = {0, 0, 0, 0, 1, 1};
        for (int k = 0; k < 6; k++) {
            int at = k;
            Check.due("three each: step " + k, wants[k], () -> x.step(at, 6));
        }
        Check.due("one and five with a life of 2", 1000, () -> x.tell(0x54321 << 4 | 8, 6));
    }

    /** "for each heat that ends behind its due minute so many late minutes". */
    private static void lateIsBehindTheDueMinute() {
        HeatOrder x = Plans.heats(2, 1);
        // They end at 20 and 30.
        int[][] rows = {{20, 30, 0}, {19, 30, 1}, {20, 29, 1}, {21, 31, 0}, {19, 29, 2}, {0, 0, 50}, {0, 10000, 20},
            {10000, 0, 30}};
        for (int[] row : rows) {
            x.due(0, row[0]);
            x.due(1, row[1]);
            Check.due("due " + row[0] + ", " + row[1], row[2], () -> x.tell(0x10, 2));
            Check.due("late minutes, due " + row[0] + ", " + row[1], row[2], () -> x.told(2));
        }
    }

    private static void costIsOfMovesChangesAndLateMinutes() {
        HeatOrder x = new HeatOrder();
        x.heat(0, 1000, 10, 10, 0, 1);
        x.heat(1, 1000, 10, 10, 10000, 1);
        x.heat(2, 1000, 10, 10, 10000, 1);
        x.move(0, 1, 10000);
        x.costs(100000, 1000);
        x.rules(1000, 40, 10, 4, 200);
        Check.due("all three", 10000 + 100000 + 20000, () -> x.tell(0x210, 3));
        sums("all three", x, 130000, 1, 20, 10000);
        Check.due("a second change costs more than the move", 130000, () -> x.run(100000));
        x.costs(0, 0);
        Check.due("changes for nothing, late for nothing", 0, () -> x.run(100000));
        Check.due("its changes", 2, () -> x.told(1));
        Check.due("its cost of moves", 0, () -> x.told(3));
    }

    /** "of these the first one, step by step by heats": heat 0 on caster 1 is ahead of heat 1 on caster 0. */
    private static void firstOfTheBestByHeats() {
        HeatOrder x = new HeatOrder();
        x.heat(0, 1000, 10, 10, 10000, 2);
        x.heat(0, 1000, 10, 10, 10000, 1);
        Check.due("all cost nothing", 0, () -> x.run(100000));
        Plans.stepIs("by heats", x, 0, 0, 1);
        Plans.stepIs("by heats", x, 1, 1, 0);
    }

    /** ".. then by casters". */
    private static void firstOfTheBestByCasters() {
        HeatOrder x = Plans.heats(1, 3);
        Check.due("one heat costs nothing on either caster", 0, () -> x.run(100000));
        Plans.stepIs("by casters", x, 0, 0, 0);
        // On one caster there is a change; apart they cost nothing, be it heat 0 on caster 0 or on caster 1.
        HeatOrder y = new HeatOrder();
        y.heat(0, 1000, 10, 10, 10000, 3);
        y.heat(1, 1000, 10, 10, 10000, 3);
        Check.due("apart", 0, () -> y.run(100000));
        Plans.stepIs("apart, by casters", y, 0, 0, 0);
        Plans.stepIs("apart, by casters", y, 1, 1, 1);
    }

    /** Step 0's caster comes ahead of step 1's heat. */
    private static void firstOfTheBestStepByStep() {
        HeatOrder x = new HeatOrder();
        x.heat(0, 1000, 10, 10, 10000, 3);
        x.heat(1, 1000, 10, 10, 10000, 1);
        x.heat(0, 1000, 10, 10, 10000, 2);
        // Nothing is to be paid only when heats 0 and 2 are on caster 1 and heat 1 on caster 0 ..
        Check.due("three heats", 0, () -> x.run(100000));
        Plans.stepIs("three heats", x, 0, 0, 1);
        Plans.stepIs("three heats", x, 1, 1, 0);
        Plans.stepIs("three heats", x, 2, 2, 1);
        // .. and with the moves from 1 to 0 and from 0 to 1 for nothing all may be first on caster 0.
        x.move(0, 1, 0);
        x.move(1, 0, 0);
        Check.due("three heats, moves for nothing", 0, () -> x.run(100000));
        Plans.stepIs("three heats, moves for nothing", x, 0, 0, 0);
        Plans.stepIs("three heats, moves for nothing", x, 1, 1, 0);
        Plans.stepIs("three heats, moves for nothing", x, 2, 2, 1);
    }

    private static void bestIsNotTheFirstFound() {
        HeatOrder x = Plans.heats(6, 1);
        x.rules(60, 40, 10, 20, 200);
        for (int heat = 0; heat < 6; heat++) {
            x.due(heat, 70 - 10 * heat);
        }
        // Cast in turn they end at 20, 30 .. 70: the last heat must be the first one.
        Check.due("the first found is late: 0, 0, 0, 10, 30, 50", 90, () -> x.run(6));
        Check.due("the best one is in time", 0, () -> x.run(100000));
        for (int k = 0; k < 6; k++) {
            Plans.stepIs("turned round", x, k, 5 - k, 0);
        }
        Check.due("proved", 1, () -> x.planned(0));
    }

    /** "When no node is left for a step that is good, planning ends: it is NOT PROVED then." */
    private static void noNodeAtAll() {
        for (int n = 1; n <= 6; n++) {
            HeatOrder x = Plans.heats(n, 1);
            String name = n + " heats, no node";
            Check.due(name, -1, () -> x.run(0));
            planning(name, x, 0, 0);
            noPlan(name, x);
        }
    }

    private static void justEnoughNodes() {
        for (int n = 1; n <= 6; n++) {
            HeatOrder x = Plans.heats(n, 3);
            x.rules(60, 40, 10, 20, 200);
            // The first plan takes n and costs nothing; beside each of its steps all others are given up.
            int all = n * (n + 1);
            int heats = n;
            String name = n + " heats, ";
            Check.due(name + "one node short of a plan", -1, () -> x.run(heats - 1));
            planning(name + "one node short of a plan", x, 0, n - 1);
            Check.due(name + "enough for a plan", 0, () -> x.run(heats));
            planning(name + "enough for a plan", x, 0, n);
            Check.due(name + "one node short of a proof", 0, () -> x.run(all - 1));
            planning(name + "one node short of a proof", x, 0, all - 1);
            Check.due(name + "just enough", 0, () -> x.run(all));
            planning(name + "just enough", x, 1, all);
            Check.due(name + "one more", 0, () -> x.run(all + 1));
            planning(name + "one more", x, 1, all);
        }
    }

    private static void justEnoughNodesOfOneHeat() {
        HeatOrder x = Plans.heats(1, 1);
        Check.due("one heat, one caster, one node", 0, () -> x.run(1));
        planning("one heat, one caster, one node", x, 1, 1);
        HeatOrder y = Plans.heats(1, 3);
        Check.due("one heat, two casters, one node", 0, () -> y.run(1));
        planning("one heat, two casters, one node", y, 0, 1);
        Check.due("one heat, two casters, two nodes", 0, () -> y.run(2));
        planning("one heat, two casters, two nodes", y, 1, 2);
    }

    /** "each step by which the plan is good so far is a NODE": with none left, others end nothing. */
    private static void stepsThatAreNotGoodTakeNoNode() {
        HeatOrder x = new HeatOrder();
        x.heat(0, 1000, 1, 500, 10000, 1);
        x.heat(0, 1000, 1, 500, 10000, 3);
        // Good: 0 on 0, then 1 on 1; 1 on 0; 1 on 1, then 0 on 0. Two on caster 0 are not.
        Check.due("two heats apart", 0, () -> x.run(4));
        planning("two heats apart", x, 1, 4);
        Check.due("two heats apart, all nodes", 0, () -> x.run(100000));
        planning("two heats apart, all nodes", x, 1, 4);
        Check.due("two heats apart, one node short", 0, () -> x.run(3));
        planning("two heats apart, one node short", x, 0, 3);
    }

    private static void aCasterThatMayNotTakesNoNode() {
        for (int casters = 1; casters <= 2; casters++) {
            HeatOrder x = Plans.heats(2, casters);
            String name = "two heats on casters " + casters;
            Check.due(name, 0, () -> x.run(3));
            planning(name, x, 1, 3);
            Check.due(name + ", one node short", 0, () -> x.run(2));
            planning(name + ", one node short", x, 0, 2);
        }
    }

    /** "a plan so far is given up .. when its cost so far is not below the best one's found". */
    private static void givenUpAtTheSameCost() {
        HeatOrder x = Plans.heats(3, 1);
        x.due(0, 15);
        x.due(1, 15);
        x.due(2, 30);
        // 0, 1, 2: late 5 + 15 + 10 = 30, three nodes. 0, 2: 5, and 0, 2, 1: 5 + 0 + 25 = 30, not below.
        // 1, 0: 20, and 1, 0, 2: 30; 1, 2, 0: 5 + 0 + 25 = 30. 2: 0; 2, 0: 15; 2, 0, 1: 40; 2, 1, 0: 40.
        Check.due("three heats", 30, () -> x.run(100000));
        planning("three heats, all are looked at", x, 1, 15);
        x.due(2, 20);
        // 0, 1, 2: 5 + 15 + 20 = 40. 0, 2: 5 + 10, with 1: 40. 1: the same. 2: 0; 2, 0: 15; 2, 0, 1: 40.
        Check.due("three heats, due 20", 40, () -> x.run(100000));
        planning("three heats, due 20", x, 1, 15);
        x.due(0, 0);
        x.due(1, 0);
        x.due(2, 10000);
        // 0, 1: 20 + 30 is the cost of 0, 1, 2. 0, 2: 20, with 1: 60. 1: 20; 1, 0: 50 is given up, not gone on
        // with; 1, 2: 20, with 0: 60. 2: 0; 2, 0: 30, with 1: 70; 2, 1: 30, with 0: 70.
        Check.due("three heats, given up at the same cost", 50, () -> x.run(100000));
        planning("three heats, given up at the same cost", x, 1, 14);
        Plans.stepIs("three heats, the first one stays", x, 0, 0);
        Plans.stepIs("three heats, the first one stays", x, 1, 1);
    }

    /** "each step .. is a NODE; a plan so far is given up, behind that": what is given up was a node. */
    private static void givenUpTakesANode() {
        HeatOrder x = Plans.heats(2, 1);
        Check.due("two heats", 0, () -> x.run(100000));
        planning("0, 1, and 1, which is given up", x, 1, 3);
        Check.due("no node for the one that would be given up", 0, () -> x.run(2));
        planning("no node for the one that would be given up", x, 0, 2);
    }

    private static void goesOnBelowTheBestCost() {
        HeatOrder x = Plans.heats(2, 1);
        x.due(1, 29);
        // 0, 1 costs 1; 1 costs 0 so far, and 1, 0 costs 0.
        Check.due("one minute late with two nodes", 1, () -> x.run(2));
        Check.due("one minute late with three nodes", 1, () -> x.run(3));
        planning("three nodes", x, 0, 3);
        Check.due("in time with four", 0, () -> x.run(4));
        planning("four nodes", x, 1, 4);
        Plans.stepIs("in time", x, 0, 1);
    }

    /** Six heats of which the last one cast is a minute late, whatever the order: no step is given up ahead. */
    private static void mostNodesThatThereAre() {
        HeatOrder x = Plans.heats(6, 3);
        x.rules(60, 40, 500, 20, 200);
        for (int heat = 0; heat < 6; heat++) {
            x.due(heat, 69);
        }
        Check.due("all nodes", 1, () -> x.run(100000));
        planning("all nodes", x, 1, ALL_STEPS);
        Check.due("just enough of them", 1, () -> x.run(ALL_STEPS));
        planning("just enough of them", x, 1, ALL_STEPS);
        Check.due("one too few", 1, () -> x.run(ALL_STEPS - 1));
        planning("one too few", x, 0, ALL_STEPS - 1);
        for (int k = 0; k < 6; k++) {
            Plans.stepIs("the first plan", x, k, k, 0);
        }
    }

    /** Promise 7: "-1 when none was found (there is no plan then)". */
    private static void noneFoundIsNoPlan() {
        HeatOrder x = twoThatClash();
        Check.due("none is good", -1, () -> x.run(100000));
        planning("none is good", x, 1, 2);
        noPlan("none is good", x);
        Check.due("none is good, just enough nodes", -1, () -> x.run(2));
        planning("none is good, just enough nodes", x, 1, 2);
        Check.due("none is good, a node short", -1, () -> x.run(1));
        planning("none is good, a node short", x, 0, 1);
        HeatOrder y = Plans.heats(3, 3);
        y.tell(0x210, 3);
        Check.due("a told plan, then a node short of one", -1, () -> y.run(2));
        noPlan("a told plan, then a node short of one", y);
        y.run(100000);
        Check.due("a found plan, then no node", -1, () -> y.run(0));
        noPlan("a found plan, then no node", y);
        planning("a found plan, then no node", y, 0, 0);
    }

    private static void runTakesThePlaceOfAPlan() {
        HeatOrder x = Plans.heats(2, 1);
        x.due(1, 29);
        x.run(100000);
        Check.due("the best one", 0, () -> x.told(0));
        Check.due("then one that is worse", 1, () -> x.run(2));
        sums("then one that is worse", x, 1, 0, 1, 0);
        Plans.stepIs("then one that is worse", x, 0, 0, 0, 0, 10, 10, 20, 0);
        x.tell(0x01, 2);
        Check.due("the best one, told", 0, () -> x.told(0));
        Check.due("then a worse one again", 1, () -> x.run(3));
        sums("then a worse one again", x, 1, 0, 1, 0);
    }

    /** Promise 11: "it is the plan then: its cost". */
    private static void tellTakesThePlaceOfAPlan() {
        HeatOrder x = Plans.heats(2, 3);
        x.due(1, 29);
        x.run(100000);
        Check.due("a worse one is told", 1, () -> x.tell(0x90, 2));
        sums("a worse one is told", x, 1, 0, 1, 0);
        Plans.stepIs("a worse one is told", x, 0, 0, 0, 0, 10, 10, 20, 0);
        Plans.stepIs("a worse one is told", x, 1, 1, 1, 10, 20, 20, 30, 0);
        Check.refused("no such plan", INDEX, () -> x.tell(0x00, 2));
        sums("the told one stands", x, 1, 0, 1, 0);
        Check.due("another one is told", 0, () -> x.tell(0x89, 2));
        Plans.stepIs("another one is told", x, 0, 1, 1, 0, 10, 10, 20, 0);
        Plans.stepIs("another one is told", x, 1, 0, 1, 10, 20, 20, 30, 0);
    }

    /** Promise 8 speaks of planning alone: a telling neither is one nor ends the latest one. */
    private static void toldPlanIsNoPlanning() {
        HeatOrder x = Plans.heats(2, 3);
        x.tell(0x10, 2);
        noPlanning("told", x);
        x.run(3);
        planning("run behind a telling", x, 0, 3);
        x.tell(0x01, 2);
        planning("told behind a run", x, 0, 3);
        Check.refused("told in vain", INDEX, () -> x.tell(0x11, 2));
        planning("told in vain behind a run", x, 0, 3);
    }

    private static void tellWithFewSteps() {
        HeatOrder x = Plans.heats(1, 3);
        Check.due("one step on caster 0", 0, () -> x.tell(0, 1));
        Plans.stepIs("one step on caster 0", x, 0, 0, 0, 0, 10, 10, 20, 0);
        Check.due("one step on caster 1", 0, () -> x.tell(8, 1));
        Plans.stepIs("one step on caster 1", x, 0, 0, 1, 0, 10, 10, 20, 0);
        Check.refused("one step, heat 1", INDEX, () -> x.tell(1, 1));
        Check.refused("one heat, no step", INDEX, () -> x.tell(0, 0));
        Check.refused("one heat, two steps", INDEX, () -> x.tell(0x10, 2));
    }

    /** "step k in bits 4 k .. 4 k + 3": bits 24 and above are none of six steps. */
    private static void tellWithAllBits() {
        HeatOrder x = Plans.heats(6, 3);
        x.rules(60, 40, 500, 20, 200);
        int[] above = {0, 0x01000000, 0x7F000000, 0x80000000, 0xFF000000};
        for (int bits : above) {
            Check.due("six steps on caster 1, " + Integer.toHexString(bits), 0, () -> x.tell(bits | 0x89ABCD, 6));
            for (int k = 0; k < 6; k++) {
                Plans.stepIs("six steps on caster 1", x, k, 5 - k, 1, 10 * k, 10 * k + 10, 10 * k + 10, 10 * k + 20, 0);
            }
        }
        Check.refused("all bits", INDEX, () -> x.tell(-1, 6));
        Check.refused("heat 6 in the last step", INDEX, () -> x.tell(0x643210, 6));
        Check.refused("heat 7 in the last step", INDEX, () -> x.tell(0x743210, 6));
        Check.refused("heat 5 twice", INDEX, () -> x.tell(0x553210, 6));
        Check.refused("heat 0 at first and at last", INDEX, () -> x.tell(0x843210, 6));
    }

    /** A plan is good when no heat waits too long: not the last one, either. */
    private static void tellIsGoodToTheLastStep() {
        for (int at = 1; at < 6; at++) {
            HeatOrder x = new HeatOrder();
            for (int k = 0; k < 6; k++) {
                int casters = k == at - 1 || k == at ? 3 : 1;
                x.heat(0, 1000, 10, k == at - 1 ? 71 : 10, 10000, casters);
            }
            x.rules(61, 40, 500, 20, 200);
            String name = "heat " + at + " waits 61, ";
            int alone = 0x543210 ^ 8 << 4 * (at - 1);
            int both = alone ^ 8 << 4 * at;
            Check.due(name + "hold 61", 0, () -> x.tell(both, 6));
            x.rules(60, 40, 500, 20, 200);
            Check.refused(name + "hold 60", MEANING, () -> x.tell(both, 6));
            Check.due(name + "apart", 0, () -> x.tell(alone, 6));
            Check.refused(name + "again", MEANING, () -> x.tell(both, 6));
            int last = at;
            Check.due(name + "the good one stands", 0, () -> x.step(last, 1));
        }
    }

    /** "for each heat the cost of its late minutes, were it melted first and cast at once; summed". */
    private static void boundOfNoneAndOfSix() {
        HeatOrder x = new HeatOrder();
        Check.due("bound of no heats", 0, x::bound);
        x.costs(100000, 1000);
        Check.due("bound of no heats at the greatest costs", 0, x::bound);
        for (int k = 1; k <= 6; k++) {
            x.heat(0, 1000, 500, 500, 0, 3);
            Check.due("bound of " + k + " at the greatest costs", k * 1000000, x::bound);
        }
        x.costs(100000, 0);
        Check.due("bound when late costs nothing", 0, x::bound);
        HeatOrder y = new HeatOrder();
        for (int k = 1; k <= 6; k++) {
            y.heat(0, 1000, 1, 1, 0, 3);
            Check.due("bound of " + k + " of the shortest heats", 2 * k, y::bound);
        }
    }

    private static void boundAtTheDueMinute() {
        HeatOrder x = new HeatOrder();
        x.heat(0, 1000, 60, 50, 0, 3);
        x.heat(0, 1000, 500, 500, 10000, 3);
        int[][] rows = {{0, 110}, {108, 2}, {109, 1}, {110, 0}, {111, 0}, {10000, 0}};
        for (int[] row : rows) {
            x.due(0, row[0]);
            Check.due("bound, due " + row[0], row[1], x::bound);
        }
        x.due(1, 999);
        Check.due("bound, the other one a minute late", 1, x::bound);
    }

    private static void boundIsAsToldLast() {
        HeatOrder x = Plans.heats(2, 3);
        x.due(0, 15);
        x.due(1, 15);
        Check.due("bound", 10, x::bound);
        Check.due("the best one costs more", 20, () -> x.run(100000));
        Check.due("bound behind a run", 10, x::bound);
        planning("a run behind bound", x, 1, x.planned(1));
        sums("a plan behind bound", x, 20, 0, 20, 0);
        x.costs(0, 3);
        Check.due("bound behind costs", 30, x::bound);
        x.heat(0, 1000, 10, 10, 19, 3);
        Check.due("bound behind a heat", 33, x::bound);
        Check.refused("due that is refused", IllegalArgumentException.class, () -> x.due(0, 10001));
        Check.due("bound behind what is refused", 33, x::bound);
    }

    /** Promise 13: "0 when some plan is good". */
    private static void clashOfNoHeats() {
        HeatOrder x = new HeatOrder();
        Check.due("clash of no heats", 0, x::clash);
        x.rules(0, 500, 0, 1, 0);
        Check.due("clash of no heats under the hardest rules", 0, x::clash);
    }

    private static void clashOfOneHeat() {
        HeatOrder x = new HeatOrder();
        x.rules(0, 500, 0, 1, 0);
        x.heat(0, 100, 1, 500, 0, 1);
        Check.due("one heat can't clash", 0, x::clash);
        x.heat(5, 2000, 1, 500, 0, 2);
        Check.due("two heats on two casters can't, either", 0, x::clash);
    }

    /** Five heats are a sequence; a sixth one needs a tundish for which it can't wait. */
    private static void clashOfAllSix() {
        HeatOrder x = Plans.heats(6, 1);
        x.rules(39, 40, 10, 5, 200);
        Check.due("all six", 0b111111, x::clash);
        Check.due("all six: run", -1, () -> x.run(100000));
        x.rules(40, 40, 10, 5, 200);
        Check.due("it can wait", 0, x::clash);
        x.rules(39, 40, 10, 6, 200);
        Check.due("it needs none", 0, x::clash);
        HeatOrder y = Plans.heats(5, 1);
        y.rules(39, 40, 10, 5, 200);
        Check.due("five of them", 0, y::clash);
        y.heat(0, 1000, 10, 10, 10000, 3);
        Check.due("a sixth on the other caster", 0, y::clash);
    }

    /** "from heat 0 on, each heat is left out". */
    private static void clashFromHeatZeroOn() {
        int[] wants = {0, 0b110000, 0b111000, 0b111100, 0b111110, 0b111111, 0};
        for (int life = 1; life <= 6; life++) {
            HeatOrder x = Plans.heats(6, 1);
            x.rules(39, 40, 10, life, 200);
            Check.due("six heats, a life of " + life, wants[life], x::clash);
        }
    }

    /** "for good", "(without those left out before)": were each one left out alone, none would be left. */
    private static void clashLeavesOutForGood() {
        HeatOrder x = new HeatOrder();
        for (int k = 0; k < 6; k++) {
            x.heat(0, 1000, 1, 500, 10000, k % 2 + 1);
        }
        Check.due("three on each caster", 0b101000, x::clash);
        HeatOrder y = new HeatOrder();
        for (int k = 0; k < 6; k++) {
            y.heat(0, 1000, 1, 500, 10000, 3);
        }
        Check.due("six on any caster", 0b111000, y::clash);
    }

    private static void clashOfTheFirstHeats() {
        HeatOrder x = twoThatClash();
        Check.due("heats 0 and 1", 0b11, x::clash);
        for (int k = 2; k < 6; k++) {
            x.heat(0, 1000, 1, 1, 10000, 2);
            Check.due("heats 0 and 1 with others, " + k, 0b11, x::clash);
        }
    }

    private static void clashNeedsNoPlanning() {
        HeatOrder x = Plans.heats(6, 3);
        Check.due("no planning yet", 0, x::clash);
        Check.due("no node", -1, () -> x.run(0));
        Check.due("none was found, but some plan is good", 0, x::clash);
        planning("the planning stands", x, 0, 0);
        noPlan("no plan then", x);
        x.tell(0x543210, 6);
        Check.due("a told plan", 0, x::clash);
        sums("the told plan stands", x, 500, 1, 0, 0);
        x.run(7);
        Check.due("behind a planning that is not proved", 0, x::clash);
        planning("the planning that is not proved stands", x, 0, 7);
        HeatOrder y = twoThatClash();
        Check.due("a clash without planning", 0b11, y::clash);
        noPlanning("a clash is no planning", y);
        Check.due("planning with no node", -1, () -> y.run(0));
        Check.due("the same clash", 0b11, y::clash);
    }

    /** "An object is used for at most 512 calls after it has been made". */
    private static void manyCallsOnOneObject() {
        HeatOrder x = new HeatOrder();
        x.rules(60, 40, 500, 20, 200);
        for (int k = 0; k < 6; k++) {
            x.heat(0, 1000, 10, 10, 69, 3);
        }
        for (int k = 7; k < 511; k += 4) {
            Check.due("call " + k + ", clash", 0, x::clash);
            Check.due("call " + (k + 1) + ", run", 1, () -> x.run(100000));
            Check.due("call " + (k + 2) + ", planned", ALL_STEPS, () -> x.planned(1));
            Check.due("call " + (k + 3) + ", tell", 1, () -> x.tell(0x89ABCD, 6));
        }
        Check.due("call 511", 5, () -> x.step(0, 0));
        Check.due("call 512", 70, () -> x.step(5, 5));
    }

    private static HeatOrder twoThatClash() {
        HeatOrder x = new HeatOrder();
        x.heat(0, 1000, 1, 500, 10000, 1);
        x.heat(0, 1000, 1, 500, 10000, 1);
        return x;
    }

    private static void noPlan(String name, HeatOrder x) {
        Check.refused(name + ": no step", TURN, () -> x.step(0, 0));
        Check.refused(name + ": no step behind the last, either", TURN, () -> x.step(6, 0));
        for (int what = 0; what < 4; what++) {
            int asked = what;
            Check.refused(name + ": nothing told, " + what, TURN, () -> x.told(asked));
        }
    }

    private static void noPlanning(String name, HeatOrder x) {
        Check.refused(name + ": not whether it was proved", TURN, () -> x.planned(0));
        Check.refused(name + ": no nodes", TURN, () -> x.planned(1));
    }

    private static void planning(String name, HeatOrder x, int proved, int nodes) {
        Check.due(name + ": proved", proved, () -> x.planned(0));
        Check.due(name + ": nodes", nodes, () -> x.planned(1));
    }

    private static void sums(String name, HeatOrder x, int... wants) {
        for (int what = 0; what < wants.length; what++) {
            int asked = what;
            Check.due(name + ": told " + what, wants[what], () -> x.told(asked));
        }
    }
}

import java.util.ArrayList;
import java.util.List;

/**
 * "Checks are made in this order: index ..; call out of turn ..; range ..; meaning .." and "What is
 * refused changes nothing.": which exception is thrown when there is more than one reason, and in
 * many states each refused call beside a twin of the object that the call was not made on.
 */
public final class RefusalTest {
    private static final Class<IndexOutOfBoundsException> INDEX = IndexOutOfBoundsException.class;
    private static final Class<IllegalStateException> TURN = IllegalStateException.class;
    private static final Class<IllegalArgumentException> RANGE = IllegalArgumentException.class;
    private static final Class<UnsupportedOperationException> MEANING = UnsupportedOperationException.class;
    private static final int[] BAD_MINUTES = {-1, 10001, Integer.MIN_VALUE, Integer.MAX_VALUE};

    private interface Made {
        HeatOrder make();
    }

    private interface Asked {
        void on(HeatOrder x);
    }

    /** A state, by the calls that lead to it, and what is known of it. */
    private record State(String name, int heats, boolean hasPlan, boolean hasPlanning, Made made) {
    }

    private record Refused(String name, Class<? extends RuntimeException> want, Asked call) {
    }

    public static void main(String[] args) {
        heatTurnAheadOfRange();
        dueIndexAheadOfRange();
        moveIndexAheadOfRange();
        plannedIndexAheadOfTurn();
        toldIndexAheadOfTurn();
        stepTurnAheadOfIndex();
        tellIndexAheadOfMeaning();
        for (State state : states()) {
            refusedChangesNothing(state);
        }
        Check.end();
    }

    private static void heatTurnAheadOfRange() {
        HeatOrder x = sixHeats();
        Check.refused("a seventh, grade 6", TURN, () -> x.heat(6, 1000, 60, 50, 100, 3));
        Check.refused("a seventh, width 99", TURN, () -> x.heat(0, 99, 60, 50, 100, 3));
        Check.refused("a seventh, melt 0", TURN, () -> x.heat(0, 1000, 0, 50, 100, 3));
        Check.refused("a seventh, cast 501", TURN, () -> x.heat(0, 1000, 60, 501, 100, 3));
        Check.refused("a seventh, due -1", TURN, () -> x.heat(0, 1000, 60, 50, -1, 3));
        Check.refused("a seventh, casters 0", TURN, () -> x.heat(0, 1000, 60, 50, 100, 0));
        Check.refused("a seventh, all wrong", TURN, () -> x.heat(-1, -1, -1, -1, -1, -1));
        HeatOrder y = new HeatOrder();
        Check.refused("a first, all wrong", RANGE, () -> y.heat(-1, -1, -1, -1, -1, -1));
        Check.due("it was not made", 0, () -> y.heat(0, 1000, 60, 50, 100, 3));
    }

    private static void dueIndexAheadOfRange() {
        HeatOrder none = new HeatOrder();
        HeatOrder three = threeHeats();
        for (int minute : BAD_MINUTES) {
            Check.refused("due of no heats, " + minute, INDEX, () -> none.due(0, minute));
            Check.refused("due of heat -1, " + minute, INDEX, () -> three.due(-1, minute));
            Check.refused("due of heat 3 of three, " + minute, INDEX, () -> three.due(3, minute));
            Check.refused("due of heat 2 of three, " + minute, RANGE, () -> three.due(2, minute));
        }
    }

    private static void moveIndexAheadOfRange() {
        HeatOrder x = new HeatOrder();
        for (int cost : new int[] {-2, 10001, Integer.MIN_VALUE, Integer.MAX_VALUE}) {
            Check.refused("move from -1, " + cost, INDEX, () -> x.move(-1, 0, cost));
            Check.refused("move from 6, " + cost, INDEX, () -> x.move(6, 0, cost));
            Check.refused("move to -1, " + cost, INDEX, () -> x.move(0, -1, cost));
            Check.refused("move to 6, " + cost, INDEX, () -> x.move(0, 6, cost));
            Check.refused("move from 6 to 6, " + cost, INDEX, () -> x.move(6, 6, cost));
            Check.refused("move from 5 to 5, " + cost, RANGE, () -> x.move(5, 5, cost));
        }
    }

    private static void plannedIndexAheadOfTurn() {
        for (HeatOrder x : new HeatOrder[] {new HeatOrder(), threeHeats(), toldOnly()}) {
            Check.refused("planned -1 and no planning", INDEX, () -> x.planned(-1));
            Check.refused("planned 2 and no planning", INDEX, () -> x.planned(2));
            Check.refused("planned 0 and no planning", TURN, () -> x.planned(0));
            Check.refused("planned 1 and no planning", TURN, () -> x.planned(1));
        }
    }

    private static void toldIndexAheadOfTurn() {
        for (HeatOrder x : new HeatOrder[] {new HeatOrder(), threeHeats(), ranInVain()}) {
            Check.refused("told -1 and no plan", INDEX, () -> x.told(-1));
            Check.refused("told 4 and no plan", INDEX, () -> x.told(4));
            for (int what = 0; what < 4; what++) {
                int asked = what;
                Check.refused("told " + what + " and no plan", TURN, () -> x.told(asked));
            }
        }
    }

    /** "turn (ahead of index): there is no plan" turns the order of the checks round. */
    private static void stepTurnAheadOfIndex() {
        for (HeatOrder x : new HeatOrder[] {new HeatOrder(), threeHeats(), ranInVain()}) {
            for (int k : new int[] {Integer.MIN_VALUE, -1, 0, 2, 3, 6, Integer.MAX_VALUE}) {
                for (int what : new int[] {Integer.MIN_VALUE, -1, 0, 6, 7, Integer.MAX_VALUE}) {
                    Check.refused("step " + k + ", " + what + " and no plan", TURN, () -> x.step(k, what));
                }
            }
        }
    }

    private static void tellIndexAheadOfMeaning() {
        // Heat 1 may not be cast by caster 1, and heat 0 behind heat 2 on a caster waits too long.
        HeatOrder x = threeHeats();
        Check.refused("a caster that may not", MEANING, () -> x.tell(0x290, 3));
        Check.refused("a caster that may not, n too small", INDEX, () -> x.tell(0x290, 2));
        Check.refused("a caster that may not, n too large", INDEX, () -> x.tell(0x290, 4));
        Check.refused("a caster that may not, then a heat twice", INDEX, () -> x.tell(0x090, 3));
        Check.refused("a caster that may not, then no such heat", INDEX, () -> x.tell(0x390, 3));
        Check.refused("a caster that may not is that of the heat that is twice", INDEX, () -> x.tell(0x192, 3));
        Check.refused("not good", MEANING, () -> x.tell(0x102, 3));
        Check.refused("not good, n too small", INDEX, () -> x.tell(0x102, 2));
        Check.refused("not good, n too large", INDEX, () -> x.tell(0x102, 4));
        Check.refused("not good, then a heat twice", INDEX, () -> x.tell(0x202, 3));
        Check.refused("not good, then no such heat", INDEX, () -> x.tell(0x702, 3));
        Check.refused("not good, then a caster that may not", MEANING, () -> x.tell(0x902, 3));
        Check.refused("nothing of this made a plan", TURN, () -> x.told(0));
    }

    private static List<State> states() {
        List<State> states = new ArrayList<>();
        states.add(new State("new", 0, false, false, HeatOrder::new));
        states.add(new State("no heats, told", 0, true, false, () -> after(new HeatOrder(), x -> x.tell(0, 0))));
        states.add(new State("no heats, ran", 0, true, true, () -> after(new HeatOrder(), x -> x.run(0))));
        states.add(new State("three heats", 3, false, false, RefusalTest::threeHeats));
        states.add(new State("three heats, told", 3, true, false, RefusalTest::toldOnly));
        states.add(new State("three heats, ran", 3, true, true, () -> after(threeHeats(), x -> x.run(100000))));
        states.add(new State("three heats, not proved", 3, true, true, () -> after(threeHeats(), x -> x.run(4))));
        states.add(new State("three heats, ran and told", 3, true, true,
                () -> after(threeHeats(), x -> x.run(100000), x -> x.tell(0xA01, 3))));
        states.add(new State("three heats, ran in vain", 3, false, true, RefusalTest::ranInVain));
        states.add(new State("three heats, told, then ran in vain", 3, false, true,
                () -> after(threeHeats(), x -> x.tell(0xA01, 3), x -> x.run(1))));
        states.add(new State("three heats, the plan is gone", 3, false, false,
                () -> after(threeHeats(), x -> x.run(100000), x -> x.due(1, 170))));
        states.add(new State("six heats", 6, false, false, RefusalTest::sixHeats));
        states.add(new State("six heats, ran", 6, true, true, () -> after(sixHeats(), x -> x.run(100000))));
        states.add(new State("heats that clash", 3, false, true,
                () -> after(threeHeats(), x -> x.rules(0, 500, 10, 1, 0), x -> x.run(100000))));
        return states;
    }

    private static void refusedChangesNothing(State state) {
        List<String> want = answers(state.made().make(), state.heats());
        for (Refused refused : refusedCalls(state)) {
            HeatOrder x = state.made().make();
            String name = state.name() + ": " + refused.name();
            Check.refused(name, refused.want(), () -> refused.call().on(x));
            Check.report(name + " changes nothing", want.toString(), answers(x, state.heats()).toString());
        }
    }

    /** Every call that the document refuses in this state, one for each reason and for more than one. */
    private static List<Refused> refusedCalls(State state) {
        List<Refused> calls = new ArrayList<>();
        addHeats(calls, state);
        addDues(calls, state);
        addRules(calls);
        addMoves(calls);
        addAsked(calls, state);
        addTold(calls, state);
        return calls;
    }

    private static void addHeats(List<Refused> calls, State state) {
        Class<? extends RuntimeException> want = state.heats() == 6 ? TURN : RANGE;
        if (state.heats() == 6) {
            calls.add(new Refused("heat", TURN, x -> x.heat(1, 1000, 60, 50, 100, 3)));
        }
        calls.add(new Refused("heat of grade 6", want, x -> x.heat(6, 1000, 60, 50, 100, 3)));
        calls.add(new Refused("heat of width 2001", want, x -> x.heat(0, 2001, 60, 50, 100, 3)));
        calls.add(new Refused("heat of melt 0", want, x -> x.heat(0, 1000, 0, 50, 100, 3)));
        calls.add(new Refused("heat of cast 501", want, x -> x.heat(0, 1000, 60, 501, 100, 3)));
        calls.add(new Refused("heat of due 10001", want, x -> x.heat(0, 1000, 60, 50, 10001, 3)));
        calls.add(new Refused("heat of casters 4", want, x -> x.heat(0, 1000, 60, 50, 100, 4)));
    }

    private static void addDues(List<Refused> calls, State state) {
        int n = state.heats();
        calls.add(new Refused("due of heat -1", INDEX, x -> x.due(-1, 5)));
        calls.add(new Refused("due of the heat behind the last", INDEX, x -> x.due(n, 5)));
        for (int heat = 0; heat < n; heat++) {
            int its = heat;
            calls.add(new Refused("due -1 of heat " + heat, RANGE, x -> x.due(its, -1)));
            calls.add(new Refused("due 10001 of heat " + heat, RANGE, x -> x.due(its, 10001)));
        }
    }

    /** The other numbers are new ones that are in range: none of them may be taken. */
    private static void addRules(List<Refused> calls) {
        calls.add(new Refused("rules, hold", RANGE, x -> x.rules(1001, 3, 100, 1, 0)));
        calls.add(new Refused("rules, change", RANGE, x -> x.rules(1000, 501, 100, 1, 0)));
        calls.add(new Refused("rules, gap", RANGE, x -> x.rules(1000, 3, 501, 1, 0)));
        calls.add(new Refused("rules, life 0", RANGE, x -> x.rules(1000, 3, 100, 0, 0)));
        calls.add(new Refused("rules, life 21", RANGE, x -> x.rules(0, 3, 0, 21, 2000)));
        calls.add(new Refused("rules, jump", RANGE, x -> x.rules(1000, 3, 100, 1, 2001)));
        calls.add(new Refused("costs, change", RANGE, x -> x.costs(100001, 3)));
        calls.add(new Refused("costs, late", RANGE, x -> x.costs(7, 1001)));
        calls.add(new Refused("costs, late -1", RANGE, x -> x.costs(7, -1)));
    }

    private static void addMoves(List<Refused> calls) {
        for (int from = 0; from < 2; from++) {
            for (int to = 0; to < 2; to++) {
                int one = from;
                int other = to;
                calls.add(new Refused("move, cost -2", RANGE, x -> x.move(one, other, -2)));
                calls.add(new Refused("move, cost 10001", RANGE, x -> x.move(one, other, 10001)));
            }
        }
        // Beside a row of six: a grade that there is not must not be taken for one of the next row.
        calls.add(new Refused("move from 0 to 6", INDEX, x -> x.move(0, 6, 77)));
        calls.add(new Refused("move from 0 to 7", INDEX, x -> x.move(0, 7, 77)));
        calls.add(new Refused("move from 1 to -6", INDEX, x -> x.move(1, -6, 77)));
        calls.add(new Refused("move from -1 to 6", INDEX, x -> x.move(-1, 6, 77)));
        calls.add(new Refused("move from -1 to 7", INDEX, x -> x.move(-1, 7, 77)));
    }

    private static void addAsked(List<Refused> calls, State state) {
        calls.add(new Refused("run -1", RANGE, x -> x.run(-1)));
        calls.add(new Refused("run 100001", RANGE, x -> x.run(100001)));
        calls.add(new Refused("planned 2", INDEX, x -> x.planned(2)));
        calls.add(new Refused("told 4", INDEX, x -> x.told(4)));
        Class<? extends RuntimeException> ofStep = state.hasPlan() ? INDEX : TURN;
        calls.add(new Refused("step behind the last", ofStep, x -> x.step(state.heats(), 0)));
        calls.add(new Refused("step of what 7", ofStep, x -> x.step(0, 7)));
        if (!state.hasPlanning()) {
            calls.add(new Refused("planned 0", TURN, x -> x.planned(0)));
        }
        if (!state.hasPlan()) {
            calls.add(new Refused("told 0", TURN, x -> x.told(0)));
            calls.add(new Refused("step 0", TURN, x -> x.step(0, 0)));
        }
    }

    private static void addTold(List<Refused> calls, State state) {
        int n = state.heats();
        calls.add(new Refused("tell, n -1", INDEX, x -> x.tell(0x543210, -1)));
        calls.add(new Refused("tell, n too small", INDEX, x -> x.tell(0x543210, n - 1)));
        calls.add(new Refused("tell, n too large", INDEX, x -> x.tell(0x543210, n + 1)));
        if (n == 0) {
            return;
        }
        calls.add(new Refused("tell, no such heat", INDEX, x -> x.tell(0x543217, n)));
        calls.add(new Refused("tell, no such heat at last", INDEX, x -> x.tell(0x543210 | 7 << 4 * (n - 1), n)));
        calls.add(new Refused("tell, heat 0 twice", INDEX, x -> x.tell(0x543200, n)));
        calls.add(new Refused("tell, heat 0 twice on two casters", INDEX, x -> x.tell(0x543280, n)));
        calls.add(new Refused("tell, a caster that may not", MEANING, x -> x.tell(0x543290, n)));
        calls.add(new Refused("tell, not good", MEANING, x -> x.tell(0x543102, n)));
    }

    private static HeatOrder after(HeatOrder x, Asked... calls) {
        for (Asked call : calls) {
            call.on(x);
        }
        return x;
    }

    private static HeatOrder threeHeats() {
        HeatOrder x = new HeatOrder();
        x.rules(15, 10, 10, 2, 200);
        x.move(0, 1, 30);
        x.heat(0, 1000, 60, 50, 70, 3);
        x.heat(1, 1150, 60, 50, 200, 1);
        x.heat(0, 900, 30, 80, 100, 3);
        return x;
    }

    private static HeatOrder sixHeats() {
        HeatOrder x = threeHeats();
        x.heat(1, 1200, 60, 50, 150, 2);
        x.heat(0, 1000, 40, 40, 300, 3);
        x.heat(1, 1100, 50, 50, 250, 3);
        return x;
    }

    private static HeatOrder toldOnly() {
        return after(threeHeats(), x -> x.tell(0xA01, 3));
    }

    private static HeatOrder ranInVain() {
        return after(threeHeats(), x -> x.run(0));
    }

    /** What it says of its plan and planning, then all that it was told, by plans, and its number of heats. */
    private static List<String> answers(HeatOrder x, int heats) {
        List<String> all = new ArrayList<>();
        addPlan(all, x);
        all.add("bound " + Check.outcome(x::bound));
        all.add("clash " + Check.outcome(x::clash));
        for (int steps : someSteps(heats)) {
            all.add("tell " + Check.outcome(() -> x.tell(steps, heats)) + " " + Check.outcome(() -> x.told(2)));
        }
        all.add("run " + Check.outcome(() -> x.run(100000)));
        addPlan(all, x);
        for (int k = 0; k < 7; k++) {
            all.add("heat " + Check.outcome(() -> x.heat(1, 1000, 20, 20, 0, 3)));
        }
        return all;
    }

    private static void addPlan(List<String> all, HeatOrder x) {
        for (int what = 0; what < 4; what++) {
            int asked = what;
            all.add("planned " + Check.outcome(() -> x.planned(asked)));
            all.add("told " + Check.outcome(() -> x.told(asked)));
        }
        for (int k = 0; k < 6; k++) {
            for (int what = 0; what < 7; what++) {
                int at = k;
                int asked = what;
                all.add("step " + Check.outcome(() -> x.step(at, asked)));
            }
        }
    }

    /** All orders of three heats on one caster and on two; with six, those with the other three behind. */
    private static List<Integer> someSteps(int heats) {
        List<Integer> all = new ArrayList<>();
        if (heats == 0) {
            all.add(0);
            return all;
        }
        int behind = heats == 6 ? 0x54B000 : 0;
        for (int order : new int[] {0x210, 0x120, 0x201, 0x021, 0x102, 0x012}) {
            for (int casters : new int[] {0, 0x008, 0x080, 0x800}) {
                all.add(behind | order | casters);
            }
        }
        return all;
    }
}

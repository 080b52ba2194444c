/**
 * The bounds that the document names, argument by argument: the least and the greatest value are
 * taken and do what they say, the next ones beyond them and the ends of int are refused.
 */
public final class LimitTest {
    private static final Class<IndexOutOfBoundsException> INDEX = IndexOutOfBoundsException.class;
    private static final Class<IllegalStateException> TURN = IllegalStateException.class;
    private static final Class<IllegalArgumentException> RANGE = IllegalArgumentException.class;
    private static final Class<UnsupportedOperationException> MEANING = UnsupportedOperationException.class;

    /** A call on an object of its own, with the one argument whose bounds are looked at. */
    private interface Taking {
        void take(int value);
    }

    public static void main(String[] args) {
        heatBounds();
        heatsAtMostSix();
        gradesLeastAndGreatest();
        widthsLeastAndGreatest();
        meltAndCastLeastAndGreatest();
        dueLeastAndGreatest();
        castersOneTwoThree();
        dueBounds();
        rulesBounds();
        holdLeastAndGreatest();
        changeLeastAndGreatest();
        gapLeastAndGreatest();
        lifeLeastAndGreatest();
        jumpLeastAndGreatest();
        costsBounds();
        costsLeastAndGreatest();
        moveBounds();
        moveLeastAndGreatest();
        runBounds();
        plannedBounds();
        stepBounds();
        toldBounds();
        tellBounds();
        Check.end();
    }

    /** "a GRADE (0 .. 5), a WIDTH (100 .. 2,000), MELT and CAST minutes (1 .. 500 each), .." */
    private static void heatBounds() {
        ranged("heat's grade", 0, 5, v -> new HeatOrder().heat(v, 1000, 60, 50, 100, 3));
        ranged("heat's width", 100, 2000, v -> new HeatOrder().heat(0, v, 60, 50, 100, 3));
        ranged("heat's melt", 1, 500, v -> new HeatOrder().heat(0, 1000, v, 50, 100, 3));
        ranged("heat's cast", 1, 500, v -> new HeatOrder().heat(0, 1000, 60, v, 100, 3));
        ranged("heat's due", 0, 10000, v -> new HeatOrder().heat(0, 1000, 60, 50, v, 3));
        ranged("heat's casters", 1, 3, v -> new HeatOrder().heat(0, 1000, 60, 50, 100, v));
    }

    /** "HEATS 0, 1, .. (at most 6)"; "Turn: there are 6". */
    private static void heatsAtMostSix() {
        for (int most = 0; most <= 6; most++) {
            HeatOrder x = new HeatOrder();
            for (int k = 0; k < most; k++) {
                Check.due("heat " + k + " of " + most, k, () -> x.heat(0, 1000, 10, 10, 10000, 3));
            }
            int n = most;
            Check.refused("no heat " + n, INDEX, () -> x.due(n, 0));
            Check.due("the plan of " + n + " heats", 0, () -> x.tell(0x5C3A18, n));
            Check.refused("the plan has no step " + n, INDEX, () -> x.step(n, 0));
            if (n > 0) {
                Check.due("the plan's last step of " + n, n - 1, () -> x.step(n - 1, 0));
                Check.fine("due of the last one of " + n, () -> x.due(n - 1, 0));
            }
        }
        HeatOrder six = Plans.heats(6, 1);
        Check.refused("a seventh heat", TURN, () -> six.heat(0, 1000, 10, 10, 10000, 3));
        Check.refused("a seventh heat again", TURN, () -> six.heat(0, 1000, 10, 10, 10000, 3));
        Check.refused("there is no seventh then", INDEX, () -> six.due(6, 0));
    }

    private static void gradesLeastAndGreatest() {
        HeatOrder x = new HeatOrder();
        x.heat(0, 1000, 60, 50, 10000, 1);
        x.heat(5, 1000, 60, 50, 10000, 1);
        x.move(0, 5, 7);
        Check.due("from grade 0 to grade 5", 7, () -> x.tell(0x10, 2));
        Check.due("from grade 5 to grade 0 is another move", 500, () -> x.tell(0x01, 2));
        x.move(5, 0, 9);
        Check.due("from grade 5 to grade 0", 9, () -> x.tell(0x01, 2));
        Check.due("from grade 0 to grade 5 as before", 7, () -> x.tell(0x10, 2));
    }

    /** The widest jump that there can be is 1,900: from 100 to 2,000. */
    private static void widthsLeastAndGreatest() {
        HeatOrder x = new HeatOrder();
        x.heat(0, 100, 60, 50, 10000, 1);
        x.heat(0, 2000, 60, 50, 10000, 1);
        x.rules(60, 40, 10, 4, 1899);
        Check.due("100 and 2,000 are farther apart than 1,899", 500, () -> x.tell(0x10, 2));
        Check.due("2,000 and 100 are, too", 500, () -> x.tell(0x01, 2));
        x.rules(60, 40, 10, 4, 1900);
        Check.due("100 and 2,000 are not farther apart than 1,900", 0, () -> x.tell(0x10, 2));
        Check.due("2,000 and 100 are not, either", 0, () -> x.tell(0x01, 2));
    }

    private static void meltAndCastLeastAndGreatest() {
        HeatOrder x = new HeatOrder();
        x.heat(0, 1000, 1, 1, 10000, 1);
        x.heat(0, 1000, 500, 500, 10000, 1);
        Check.due("short, then long: a gap of 499", 500, () -> x.tell(0x10, 2));
        Plans.stepIs("melt 1, cast 1", x, 0, 0, 0, 0, 1, 1, 2, 0);
        Plans.stepIs("melt 500, cast 500", x, 1, 1, 0, 1, 501, 501, 1001, 1);
        x.rules(1000, 40, 10, 4, 200);
        Check.due("long, then short: waiting 499", 0, () -> x.tell(0x01, 2));
        Plans.stepIs("melt 500, cast 500 first", x, 0, 1, 0, 0, 500, 500, 1000, 0);
        Plans.stepIs("melt 1, cast 1 then", x, 1, 0, 0, 500, 501, 1000, 1001, 0);
    }

    private static void dueLeastAndGreatest() {
        HeatOrder x = new HeatOrder();
        x.heat(0, 1000, 1, 1, 0, 1);
        Check.due("due 0 is late by all its minutes", 2, () -> x.tell(0, 1));
        x.due(0, 1);
        Check.due("due 1", 1, () -> x.tell(0, 1));
        x.due(0, 2);
        Check.due("due at the minute at which it ends", 0, () -> x.tell(0, 1));
        x.due(0, 10000);
        Check.due("due 10,000", 0, () -> x.tell(0, 1));
        x.due(0, 0);
        Check.due("due 0 again", 2, () -> x.tell(0, 1));
        HeatOrder y = new HeatOrder();
        y.heat(0, 1000, 500, 500, 10000, 1);
        Check.due("due 10,000 from the start", 0, () -> y.tell(0, 1));
        y.due(0, 999);
        Check.due("the longest heat, a minute late", 1, () -> y.tell(0, 1));
    }

    /** "CASTERS that may cast them (1, 2, 3: bits of casters 0, 1)". */
    private static void castersOneTwoThree() {
        for (int casters = 1; casters <= 3; casters++) {
            HeatOrder x = new HeatOrder();
            x.heat(0, 1000, 60, 50, 10000, casters);
            for (int caster = 0; caster < 2; caster++) {
                String name = "casters " + casters + ", caster " + caster;
                int steps = caster << 3;
                if ((casters & 1 << caster) != 0) {
                    Check.due(name, 0, () -> x.tell(steps, 1));
                } else {
                    Check.refused(name, MEANING, () -> x.tell(steps, 1));
                }
            }
            Check.due("casters " + casters + ": run", 0, () -> x.run(100000));
            Check.due("casters " + casters + ": the first of them", casters == 2 ? 1 : 0, () -> x.step(0, 1));
            Check.due("casters " + casters + ": a node for each", casters == 3 ? 2 : 1, () -> x.planned(1));
        }
    }

    /** "Index: no such heat; range: it." */
    private static void dueBounds() {
        indexed("due of one heat", 0, 0, v -> Plans.heats(1, 3).due(v, 0));
        indexed("due of six heats", 0, 5, v -> Plans.heats(6, 3).due(v, 0));
        ranged("due's minute", 0, 10000, v -> Plans.heats(1, 3).due(0, v));
        for (int heat : new int[] {Integer.MIN_VALUE, -1, 0, 1, 5, 6, Integer.MAX_VALUE}) {
            Check.refused("due of no heats, " + heat, INDEX, () -> new HeatOrder().due(heat, 0));
        }
    }

    /** "HOLD (0 .. 1,000 minutes), CHANGE (0 .. 500), GAP (0 .. 500), LIFE (1 .. 20 heats), JUMP (0 .. 2,000)". */
    private static void rulesBounds() {
        ranged("hold", 0, 1000, v -> new HeatOrder().rules(v, 40, 10, 4, 200));
        ranged("change", 0, 500, v -> new HeatOrder().rules(60, v, 10, 4, 200));
        ranged("gap", 0, 500, v -> new HeatOrder().rules(60, 40, v, 4, 200));
        ranged("life", 1, 20, v -> new HeatOrder().rules(60, 40, 10, v, 200));
        ranged("jump", 0, 2000, v -> new HeatOrder().rules(60, 40, 10, 4, v));
    }

    /** "no heat begins more than hold minutes behind its being melted". */
    private static void holdLeastAndGreatest() {
        HeatOrder x = new HeatOrder();
        x.heat(0, 1000, 60, 50, 10000, 1);
        x.heat(0, 1000, 50, 50, 10000, 1);
        x.heat(0, 1000, 49, 50, 10000, 3);
        x.rules(0, 40, 10, 4, 200);
        Check.due("hold 0: none waits", 0, () -> x.tell(0xA10, 3));
        Check.refused("hold 0: one minute is too long", MEANING, () -> x.tell(0x210, 3));
        x.rules(1, 40, 10, 4, 200);
        Check.due("hold 1: one minute is not", 0, () -> x.tell(0x210, 3));
        Check.due("hold 1: it begins a minute behind its being melted", 160, () -> x.step(2, 4));

        // 1 .. 501, in sequence 501 .. 1001; heat 2 is melted at 3 and has a change ahead of it.
        HeatOrder y = new HeatOrder();
        y.heat(0, 1000, 1, 500, 10000, 1);
        y.heat(0, 1000, 1, 500, 10000, 1);
        y.heat(1, 1000, 1, 500, 10000, 1);
        y.rules(1000, 2, 10, 4, 200);
        Check.due("hold 1,000: waiting 1,000", 500, () -> y.tell(0x210, 3));
        Check.due("it begins then", 1003, () -> y.step(2, 4));
        y.rules(1000, 3, 10, 4, 200);
        Check.refused("hold 1,000: waiting 1,001", MEANING, () -> y.tell(0x210, 3));
        y.rules(999, 2, 10, 4, 200);
        Check.refused("hold 999: waiting 1,000", MEANING, () -> y.tell(0x210, 3));
    }

    /** "it begins at the greater one of m and e + change minutes". */
    private static void changeLeastAndGreatest() {
        HeatOrder x = new HeatOrder();
        x.heat(0, 1000, 60, 50, 10000, 1);
        x.heat(1, 1000, 50, 50, 10000, 1);
        x.rules(0, 0, 10, 4, 200);
        Check.due("change 0 takes no minutes, but costs", 500, () -> x.tell(0x10, 2));
        Plans.stepIs("change 0", x, 1, 1, 0, 60, 110, 110, 160, 1);
        x.rules(0, 1, 10, 4, 200);
        Check.refused("change 1 takes one", MEANING, () -> x.tell(0x10, 2));
        x.rules(500, 500, 10, 4, 200);
        Check.due("change 500", 500, () -> x.tell(0x10, 2));
        Plans.stepIs("change 500", x, 1, 1, 0, 60, 110, 610, 660, 1);
        x.rules(499, 500, 10, 4, 200);
        Check.refused("change 500 is waited for", MEANING, () -> x.tell(0x10, 2));
        // m is the greater one, is the same, is the smaller one: e = 110 and the change takes 40.
        begins("m above e + change", 91, 151, 1);
        begins("m at e + change", 90, 150, 1);
        begins("m below e + change", 89, 150, 1);
    }

    private static void begins(String name, int melt, int begin, int change) {
        HeatOrder x = new HeatOrder();
        x.heat(0, 1000, 60, 50, 10000, 1);
        x.heat(1, 1000, melt, 50, 10000, 1);
        Check.due(name, 500, () -> x.tell(0x10, 2));
        Plans.stepIs(name, x, 1, 1, 0, 60, 60 + melt, begin, begin + 50, change);
    }

    /** "m - e is not above the gap". */
    private static void gapLeastAndGreatest() {
        Check.due("gap 0: m at e", 0, () -> gap(0, 60, 50, 50));
        Check.due("gap 0: m above e by 1", 500, () -> gap(0, 60, 50, 51));
        Check.due("gap 0: m below e by 1", 0, () -> gap(0, 60, 50, 49));
        Check.due("gap 1: m above e by 1", 0, () -> gap(1, 60, 50, 51));
        Check.due("gap 498: m above e by 498", 0, () -> gap(498, 60, 2, 500));
        Check.due("gap 497: m above e by 498", 500, () -> gap(497, 60, 2, 500));

        // Heat 1 on the other caster lies between: heat 2 is melted 500 or 501 behind the end of heat 0.
        HeatOrder x = new HeatOrder();
        x.heat(0, 1000, 1, 1, 10000, 1);
        x.heat(0, 1000, 2, 1, 10000, 2);
        x.heat(0, 1000, 499, 1, 10000, 1);
        x.heat(0, 1000, 500, 1, 10000, 1);
        x.rules(60, 40, 500, 4, 200);
        Check.due("gap 500: m above e by 500, then by 499", 0, () -> x.tell(0x3290, 4));
        Check.due("gap 500: m above e by 501, then by 498", 500, () -> x.tell(0x2390, 4));
        Check.due("gap 500: the change", 1, () -> x.step(2, 6));
    }

    /** The cost of heat 1 behind heat 0 on the same caster. */
    private static int gap(int gap, int melt, int cast, int nextMelt) {
        HeatOrder x = heatsOfTwo(melt, cast, nextMelt);
        x.rules(60, 40, gap, 4, 200);
        return x.tell(0x10, 2);
    }

    /** "the tundish has cast fewer heats than its life". */
    private static void lifeLeastAndGreatest() {
        int[] changesBy = {-1, 5, 2, 1, 1, 1, 0, 0};
        for (int life = 1; life <= 7; life++) {
            HeatOrder x = Plans.heats(6, 1);
            x.rules(1000, 40, 10, life, 200);
            int want = changesBy[life];
            Check.due("life " + life, 500 * want, () -> x.tell(0x543210, 6));
            Check.due("life " + life + ": changes", want, () -> x.told(1));
            for (int k = 0; k < 6; k++) {
                int at = k;
                Check.due("life " + life + ": step " + k, k > 0 && k % life == 0 ? 1 : 0, () -> x.step(at, 6));
            }
        }
        HeatOrder y = Plans.heats(6, 1);
        y.rules(1000, 40, 10, 20, 200);
        Check.due("life 20: no change in six heats", 0, () -> y.tell(0x543210, 6));
    }

    /** "their widths are not farther apart than the jump". */
    private static void jumpLeastAndGreatest() {
        int[][] rows = {{0, 1000, 0}, {0, 1001, 1}, {0, 999, 1}, {1, 1001, 0}, {1, 999, 0}, {1, 1002, 1}, {1, 998, 1},
            {2000, 100, 0}, {2000, 2000, 0}, {900, 100, 0}, {899, 100, 1}, {1000, 2000, 0}, {999, 2000, 1}};
        for (int[] row : rows) {
            HeatOrder x = new HeatOrder();
            x.heat(0, 1000, 60, 50, 10000, 1);
            x.heat(0, row[1], 60, 50, 10000, 1);
            x.rules(60, 40, 10, 4, row[0]);
            Check.due("jump " + row[0] + " from 1,000 to " + row[1], 500 * row[2], () -> x.tell(0x10, 2));
        }
    }

    /** "of a change (0 .. 100,000; 500), of a LATE minute (0 .. 1,000; 1)". */
    private static void costsBounds() {
        ranged("cost of a change", 0, 100000, v -> new HeatOrder().costs(v, 1));
        ranged("cost of a late minute", 0, 1000, v -> new HeatOrder().costs(500, v));
    }

    private static void costsLeastAndGreatest() {
        // Late by all minutes: they end at 2, 43, 84, 125, 166, 207.
        HeatOrder x = new HeatOrder();
        for (int k = 0; k < 6; k++) {
            x.heat(0, 1000, 1, 1, 0, 1);
        }
        x.rules(1000, 40, 0, 1, 0);
        int late = 2 + 43 + 84 + 125 + 166 + 207;
        x.costs(0, 0);
        Check.due("costs 0, 0", 0, () -> x.tell(0x543210, 6));
        Check.due("five changes all the same", 5, () -> x.told(1));
        Check.due("late all the same", late, () -> x.told(2));
        x.costs(100000, 0);
        Check.due("costs 100,000, 0", 500000, () -> x.tell(0x543210, 6));
        x.costs(0, 1000);
        Check.due("costs 0, 1,000", 1000 * late, () -> x.tell(0x543210, 6));
        x.costs(100000, 1000);
        Check.due("costs 100,000, 1,000", 500000 + 1000 * late, () -> x.tell(0x543210, 6));
        Check.due("the best one costs as much", 500000 + 1000 * late, () -> x.run(100000));
        x.costs(1, 1);
        Check.due("costs 1, 1", 5 + late, () -> x.tell(0x543210, 6));
    }

    /** "costs so much (0 .. 10,000; ..), or is NOT ALLOWED (-1; ..)"; "Index: no such grades". */
    private static void moveBounds() {
        indexed("move's from", 0, 5, v -> new HeatOrder().move(v, 0, 0));
        indexed("move's to", 0, 5, v -> new HeatOrder().move(0, v, 0));
        ranged("move's cost", -1, 10000, v -> new HeatOrder().move(0, 1, v));
        ranged("move's cost to itself", -1, 10000, v -> new HeatOrder().move(5, 5, v));
    }

    private static void moveLeastAndGreatest() {
        HeatOrder x = new HeatOrder();
        for (int k = 0; k < 6; k++) {
            x.heat(k % 2, 1000, 10, 10, 10000, 1);
        }
        x.rules(60, 0, 10, 20, 200);
        Check.due("all others not allowed at first", 2500, () -> x.tell(0x543210, 6));
        x.move(0, 1, 10000);
        x.move(1, 0, 10000);
        Check.due("10,000 five times", 50000, () -> x.tell(0x543210, 6));
        Check.due("10,000 five times as cost of moves", 50000, () -> x.told(3));
        Check.due("without a change", 0, () -> x.told(1));
        x.move(0, 1, 0);
        x.move(1, 0, 1);
        Check.due("0 three times and 1 twice", 2, () -> x.tell(0x543210, 6));
        x.move(1, 0, -1);
        Check.due("0 three times and two changes", 1000, () -> x.tell(0x543210, 6));
        x.move(0, 0, 3);
        Check.due("0 to itself twice, 0 to 1, 1 to itself twice", 6, () -> x.tell(0x531420, 6));
        x.move(1, 1, -1);
        Check.due("1 to itself not allowed", 1006, () -> x.tell(0x531420, 6));
    }

    /** "Plans with so many nodes (0 .. 100,000)"; "Range: nodes." */
    private static void runBounds() {
        ranged("run without heats", 0, 100000, v -> new HeatOrder().run(v));
        ranged("run with six heats", 0, 100000, v -> Plans.heats(6, 3).run(v));
    }

    /** "Index: no such what". */
    private static void plannedBounds() {
        indexed("planned", 0, 1, v -> ran(2).planned(v));
        indexed("planned without heats", 0, 1, v -> ran(0).planned(v));
    }

    /** "Index: no such step or what". */
    private static void stepBounds() {
        indexed("step of one", 0, 0, v -> ran(1).step(v, 0));
        indexed("step of two", 0, 1, v -> ran(2).step(v, 6));
        indexed("step of six", 0, 5, v -> ran(6).step(v, 3));
        indexed("step's what", 0, 6, v -> ran(1).step(0, v));
        indexed("the last step's what", 0, 6, v -> ran(6).step(5, v));
        for (int k : new int[] {Integer.MIN_VALUE, -1, 0, 1, 5, 6, Integer.MAX_VALUE}) {
            Check.refused("step of none, " + k, INDEX, () -> ran(0).step(k, 0));
        }
    }

    /** "Index: no such what". */
    private static void toldBounds() {
        indexed("told", 0, 3, v -> ran(2).told(v));
        indexed("told without heats", 0, 3, v -> ran(0).told(v));
    }

    /** "Index: a heat that there is not, or twice, or n is another number". */
    private static void tellBounds() {
        for (int heats = 0; heats <= 6; heats++) {
            int n = heats;
            indexed("tell's n with " + n + " heats", n, n, v -> Plans.heats(n, 3).tell(0x543210, v));
        }
        for (int heats = 1; heats <= 6; heats++) {
            HeatOrder x = Plans.heats(heats, 3);
            int n = heats;
            int last = 4 * (n - 1);
            int ahead = 0x543210 & (1 << last) - 1;
            for (int heat = 0; heat <= 7; heat++) {
                int low = ahead | heat << last;
                int high = ahead | (heat | 8) << last;
                String name = "tell's last of " + n + " is heat " + heat;
                if (heat == n - 1) {
                    Check.fine(name + " on caster 0", () -> x.tell(low, n));
                    Check.fine(name + " on caster 1", () -> x.tell(high, n));
                    Check.due(name + ": its caster", 1, () -> x.step(n - 1, 1));
                } else {
                    Check.refused(name + " on caster 0", INDEX, () -> x.tell(low, n));
                    Check.refused(name + " on caster 1", INDEX, () -> x.tell(high, n));
                }
            }
        }
    }

    private static HeatOrder heatsOfTwo(int melt, int cast, int nextMelt) {
        HeatOrder x = new HeatOrder();
        x.heat(0, 1000, melt, cast, 10000, 1);
        x.heat(0, 1000, nextMelt, 50, 10000, 1);
        return x;
    }

    private static HeatOrder ran(int n) {
        HeatOrder x = Plans.heats(n, 3);
        x.run(100000);
        return x;
    }

    private static void ranged(String name, int least, int most, Taking call) {
        bounds(name, least, most, RANGE, call);
    }

    private static void indexed(String name, int least, int most, Taking call) {
        bounds(name, least, most, INDEX, call);
    }

    private static void bounds(String name, int least, int most, Class<? extends RuntimeException> beyond,
            Taking call) {
        for (int value : new int[] {Integer.MIN_VALUE, least - 1, most + 1, Integer.MAX_VALUE}) {
            Check.refused(name + " " + value, beyond, () -> call.take(value));
        }
        for (int value : new int[] {least, most}) {
            Check.fine(name + " " + value, () -> call.take(value));
        }
    }
}

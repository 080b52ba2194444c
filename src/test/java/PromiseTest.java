/** One method a promise: ordinary inputs, the edges that the document names, wrong inputs. */
public final class PromiseTest {
    private static final Class<IndexOutOfBoundsException> INDEX = IndexOutOfBoundsException.class;
    private static final Class<IllegalStateException> TURN = IllegalStateException.class;
    private static final Class<IllegalArgumentException> RANGE = IllegalArgumentException.class;
    private static final Class<UnsupportedOperationException> MEANING = UnsupportedOperationException.class;

    public static void main(String[] args) {
        promise1NewObject();
        promise2Heat();
        promise2HeatForgetsThePlan();
        promise3Due();
        promise4RulesRange();
        promise4RulesAtFirst();
        promise4Gap();
        promise4Life();
        promise4Jump();
        promise4ChangeAndHold();
        promise5Costs();
        promise6Move();
        promise6MovesAtFirst();
        promise6MoveOfAGradeToItself();
        promise7Run();
        promise7TakesTheFirstOfTheBest();
        promise7HasNoPlanWhenNoneIsGood();
        promise8Planned();
        promise8OutlivesATelling();
        promise9Step();
        promise10Told();
        promise11TellIndex();
        promise11TellMeaning();
        promise11TellIsThePlan();
        promise12Bound();
        promise13Clash();
        promise13UsesEachHeatOnce();
        promise13LeavesAlone();
        Check.end();
    }

    private static void promise1NewObject() {
        HeatOrder x = new HeatOrder();
        Check.refused("1 step", TURN, () -> x.step(0, 0));
        Check.refused("1 told", TURN, () -> x.told(0));
        Check.refused("1 planned", TURN, () -> x.planned(0));
        Check.refused("1 due of heat 0", INDEX, () -> x.due(0, 0));
        Check.due("1 bound", 0, x::bound);
        Check.due("1 clash", 0, x::clash);
        Check.due("1 run without heats", 0, () -> x.run(0));
        Check.due("1 is proved", 1, () -> x.planned(0));
        Check.due("1 without nodes", 0, () -> x.planned(1));
        Check.due("1 cost of no steps", 0, () -> x.told(0));
        Check.refused("1 no step 0", INDEX, () -> x.step(0, 0));

        HeatOrder y = new HeatOrder();
        Check.due("1 tell of no steps", 0, () -> y.tell(0, 0));
        Check.due("1 it is the plan", 0, () -> y.told(1));
        Check.refused("1 no planning", TURN, () -> y.planned(1));
    }

    private static void promise2Heat() {
        HeatOrder x = new HeatOrder();
        Check.refused("2 grade -1", RANGE, () -> x.heat(-1, 100, 1, 1, 0, 1));
        Check.refused("2 grade 6", RANGE, () -> x.heat(6, 100, 1, 1, 0, 1));
        Check.refused("2 width 99", RANGE, () -> x.heat(0, 99, 1, 1, 0, 1));
        Check.refused("2 width 2001", RANGE, () -> x.heat(0, 2001, 1, 1, 0, 1));
        Check.refused("2 melt 0", RANGE, () -> x.heat(0, 100, 0, 1, 0, 1));
        Check.refused("2 melt 501", RANGE, () -> x.heat(0, 100, 501, 1, 0, 1));
        Check.refused("2 cast 0", RANGE, () -> x.heat(0, 100, 1, 0, 0, 1));
        Check.refused("2 cast 501", RANGE, () -> x.heat(0, 100, 1, 501, 0, 1));
        Check.refused("2 due -1", RANGE, () -> x.heat(0, 100, 1, 1, -1, 1));
        Check.refused("2 due 10001", RANGE, () -> x.heat(0, 100, 1, 1, 10001, 1));
        Check.refused("2 casters 0", RANGE, () -> x.heat(0, 100, 1, 1, 0, 0));
        Check.refused("2 casters 4", RANGE, () -> x.heat(0, 100, 1, 1, 0, 4));
        Check.refused("2 casters -1", RANGE, () -> x.heat(0, 100, 1, 1, 0, -1));
        Check.refused("2 least int", RANGE, () -> x.heat(0, 100, Integer.MIN_VALUE, 1, 0, 1));
        Check.due("2 first, all least", 0, () -> x.heat(0, 100, 1, 1, 0, 1));
        Check.due("2 second, all most", 1, () -> x.heat(5, 2000, 500, 500, 10000, 3));
        for (int number = 2; number < 6; number++) {
            Check.due("2 heat " + number, number, () -> x.heat(1, 1000, 60, 60, 100, 2));
        }
        Check.refused("2 a seventh", TURN, () -> x.heat(1, 1000, 60, 60, 100, 2));
        Check.refused("2 turn ahead of range", TURN, () -> x.heat(-1, 0, 0, 0, -1, 0));
        Check.fine("2 due of heat 5", () -> x.due(5, 0));
        Check.refused("2 no heat 6", INDEX, () -> x.due(6, 0));
    }

    private static void promise2HeatForgetsThePlan() {
        HeatOrder x = planned();
        Check.refused("2 refused", RANGE, () -> x.heat(0, 1000, 0, 1, 0, 3));
        plans("2 what is refused changes nothing", x);
        Check.due("2 one more", 2, () -> x.heat(0, 1000, 1, 1, 0, 3));
        forgot("2 heat", x);
    }

    private static void promise3Due() {
        HeatOrder x = planned();
        Check.refused("3 heat -1", INDEX, () -> x.due(-1, 0));
        Check.refused("3 heat 2", INDEX, () -> x.due(2, 0));
        Check.refused("3 index ahead of range", INDEX, () -> x.due(2, -1));
        Check.refused("3 minute -1", RANGE, () -> x.due(0, -1));
        Check.refused("3 minute 10001", RANGE, () -> x.due(0, 10001));
        plans("3 what is refused changes nothing", x);
        Check.fine("3 minute 10000", () -> x.due(0, 10000));
        forgot("3 due", x);
        Check.fine("3 minute 0", () -> x.due(0, 0));
        Check.due("3 the late minutes follow", 110, () -> x.tell(0x10, 2));
        Check.fine("3 of heat 1", () -> x.due(1, 169));
        Check.due("3 one minute late", 111, () -> x.tell(0x10, 2));
        Check.fine("3 of heat 1 again", () -> x.due(1, 170));
        Check.due("3 just in time", 110, () -> x.tell(0x10, 2));
    }

    private static void promise4RulesRange() {
        HeatOrder x = planned();
        Check.refused("4 hold -1", RANGE, () -> x.rules(-1, 0, 0, 1, 0));
        Check.refused("4 hold 1001", RANGE, () -> x.rules(1001, 0, 0, 1, 0));
        Check.refused("4 change -1", RANGE, () -> x.rules(0, -1, 0, 1, 0));
        Check.refused("4 change 501", RANGE, () -> x.rules(0, 501, 0, 1, 0));
        Check.refused("4 gap -1", RANGE, () -> x.rules(0, 0, -1, 1, 0));
        Check.refused("4 gap 501", RANGE, () -> x.rules(0, 0, 501, 1, 0));
        Check.refused("4 life 0", RANGE, () -> x.rules(0, 0, 0, 0, 0));
        Check.refused("4 life 21", RANGE, () -> x.rules(0, 0, 0, 21, 0));
        Check.refused("4 jump -1", RANGE, () -> x.rules(0, 0, 0, 1, -1));
        Check.refused("4 jump 2001", RANGE, () -> x.rules(0, 0, 0, 1, 2001));
        plans("4 what is refused changes nothing", x);
        Check.due("4 the old rules hold", 0, () -> x.tell(0x10, 2));
        Check.fine("4 all least", () -> x.rules(0, 0, 0, 1, 0));
        forgot("4 rules", x);
        Check.fine("4 all most", () -> x.rules(1000, 500, 500, 20, 2000));
    }

    private static void promise4RulesAtFirst() {
        // e = 110, m = 60 + melt: a gap of 10 is in sequence, one of 11 is not.
        tellsTwo("4 gap 10 at first", new HeatOrder(), 1000, 60, 0, 120);
        tellsTwo("4 gap 11 needs a change of 40 at first", new HeatOrder(), 1000, 61, 1, 150);
        tellsTwo("4 jump 200 at first", new HeatOrder(), 1200, 60, 0, 120);
        tellsTwo("4 jump 201 needs a change", new HeatOrder(), 1201, 60, 1, 150);
        tellsTwo("4 hold 60 at first", new HeatOrder(), 1201, 30, 1, 150);
        HeatOrder x = new HeatOrder();
        two(x, 1201, 29);
        Check.refused("4 waiting 61 is too long", MEANING, () -> x.tell(0x10, 2));
    }

    private static void promise4Gap() {
        HeatOrder x = new HeatOrder();
        x.rules(60, 40, 0, 4, 200);
        tellsTwo("4 gap 0", x, 1000, 50, 0, 110);
        HeatOrder y = new HeatOrder();
        y.rules(60, 40, 0, 4, 200);
        tellsTwo("4 gap 0 is passed", y, 1000, 51, 1, 150);
        HeatOrder z = new HeatOrder();
        z.rules(60, 40, 0, 4, 200);
        tellsTwo("4 melted ahead of the end is no gap", z, 1000, 50 - 30, 0, 110);
        HeatOrder w = new HeatOrder();
        w.rules(60, 40, 0, 4, 0);
        tellsTwo("4 a change that was over when it is melted", w, 1001, 200, 1, 260);
    }

    private static void promise4Life() {
        HeatOrder x = new HeatOrder();
        for (int k = 0; k < 6; k++) {
            x.heat(0, 1000, 10, 10, 10000, 1);
        }
        // On caster 0 four heats in a row, then the fifth: it waits for 40 minutes.
        Check.due("4 a life of 4 at first", 500, () -> x.tell(0x543210, 6));
        changes("4 a life of 4 at first", x, 0, 0, 0, 0, 1, 0);
        x.rules(1000, 40, 10, 4, 200);
        Check.due("4 a life of 4", 500, () -> x.tell(0x543210, 6));
        changes("4 a change ahead of the fifth", x, 0, 0, 0, 0, 1, 0);
        x.rules(1000, 40, 10, 2, 200);
        Check.due("4 a life of 2", 1000, () -> x.tell(0x543210, 6));
        changes("4 a new tundish counts from its first heat", x, 0, 0, 1, 0, 1, 0);
        x.rules(1000, 40, 10, 1, 200);
        Check.due("4 a life of 1", 2500, () -> x.tell(0x543210, 6));
        changes("4 a change ahead of each but the first", x, 0, 1, 1, 1, 1, 1);
        x.rules(1000, 40, 10, 6, 200);
        Check.due("4 a life of 6", 0, () -> x.tell(0x543210, 6));
        changes("4 no change", x, 0, 0, 0, 0, 0, 0);

        HeatOrder y = new HeatOrder();
        for (int k = 0; k < 6; k++) {
            y.heat(0, 1000, 10, 10, 10000, 3);
        }
        y.rules(60, 40, 10, 3, 200);
        Check.due("4 each caster has its own tundish", 0, () -> y.tell(0xD4B290, 6));
        y.rules(60, 40, 10, 2, 200);
        Check.due("4 each tundish has its own life", 1000, () -> y.tell(0xD4B290, 6));
        changes("4 a change on each caster", y, 0, 0, 0, 0, 1, 1);
    }

    private static void promise4Jump() {
        HeatOrder x = new HeatOrder();
        x.rules(60, 40, 10, 4, 0);
        tellsTwo("4 jump 0, the same width", x, 1000, 60, 0, 120);
        HeatOrder y = new HeatOrder();
        y.rules(60, 40, 10, 4, 0);
        tellsTwo("4 jump 0, narrower", y, 999, 60, 1, 150);
        tellsTwo("4 narrower by 200", new HeatOrder(), 800, 60, 0, 120);
        tellsTwo("4 narrower by 201", new HeatOrder(), 799, 60, 1, 150);
    }

    private static void promise4ChangeAndHold() {
        HeatOrder x = new HeatOrder();
        two(x, 1201, 60);
        x.rules(30, 40, 10, 4, 200);
        Check.due("4 waiting as long as the hold", 500, () -> x.tell(0x10, 2));
        x.rules(29, 40, 10, 4, 200);
        Check.refused("4 waiting longer", MEANING, () -> x.tell(0x10, 2));
        x.rules(0, 10, 10, 4, 200);
        Check.due("4 a change of 10 minutes", 500, () -> x.tell(0x10, 2));
        Check.due("4 begins at once", 120, () -> x.step(1, 4));
        x.rules(0, 11, 10, 4, 200);
        Check.refused("4 a change of 11 minutes", MEANING, () -> x.tell(0x10, 2));

        HeatOrder y = new HeatOrder();
        two(y, 1000, 20);
        y.rules(29, 40, 10, 4, 200);
        Check.refused("4 waiting in sequence is bounded, too", MEANING, () -> y.tell(0x10, 2));
        y.rules(30, 40, 10, 4, 200);
        Check.due("4 waiting in sequence", 0, () -> y.tell(0x10, 2));
    }

    private static void promise5Costs() {
        HeatOrder x = planned();
        Check.refused("5 change -1", RANGE, () -> x.costs(-1, 0));
        Check.refused("5 change 100001", RANGE, () -> x.costs(100001, 0));
        Check.refused("5 late -1", RANGE, () -> x.costs(0, -1));
        Check.refused("5 late 1001", RANGE, () -> x.costs(0, 1001));
        plans("5 what is refused changes nothing", x);
        Check.fine("5 all least", () -> x.costs(0, 0));
        forgot("5 costs", x);

        HeatOrder y = new HeatOrder();
        two(y, 1201, 60);
        y.due(0, 100);
        y.due(1, 150);
        Check.due("5 at first 500 and 1", 500 + 10 + 50, () -> y.tell(0x10, 2));
        y.costs(100000, 1000);
        Check.due("5 all most", 100000 + 60 * 1000, () -> y.tell(0x10, 2));
        y.costs(7, 0);
        Check.due("5 late for nothing", 7, () -> y.tell(0x10, 2));
        y.costs(0, 3);
        Check.due("5 changes for nothing", 180, () -> y.tell(0x10, 2));
    }

    private static void promise6Move() {
        HeatOrder x = planned();
        Check.refused("6 from -1", INDEX, () -> x.move(-1, 0, 0));
        Check.refused("6 from 6", INDEX, () -> x.move(6, 0, 0));
        Check.refused("6 to -1", INDEX, () -> x.move(0, -1, 0));
        Check.refused("6 to 6", INDEX, () -> x.move(0, 6, 0));
        Check.refused("6 index ahead of range", INDEX, () -> x.move(0, 6, -2));
        Check.refused("6 cost -2", RANGE, () -> x.move(0, 0, -2));
        Check.refused("6 cost 10001", RANGE, () -> x.move(5, 5, 10001));
        plans("6 what is refused changes nothing", x);
        Check.fine("6 dearest", () -> x.move(5, 5, 10000));
        forgot("6 move", x);

        HeatOrder y = new HeatOrder();
        y.heat(2, 1000, 60, 50, 10000, 1);
        y.heat(3, 1000, 60, 50, 10000, 1);
        Check.due("6 not allowed at first", 500, () -> y.tell(0x10, 2));
        y.move(3, 2, 5);
        Check.due("6 the other way round", 500, () -> y.tell(0x10, 2));
        Check.due("6 this way", 5, () -> y.tell(0x01, 2));
        y.move(2, 3, 10000);
        Check.due("6 allowed", 10000, () -> y.tell(0x10, 2));
        Check.due("6 no change", 0, () -> y.step(1, 6));
        y.move(2, 3, 0);
        Check.due("6 for nothing", 0, () -> y.tell(0x10, 2));
        y.move(2, 3, -1);
        Check.due("6 no longer allowed", 500, () -> y.tell(0x10, 2));
        Check.due("6 a move with a change costs nothing", 0, () -> y.told(3));
    }

    private static void promise6MovesAtFirst() {
        for (int from = 0; from < 6; from++) {
            for (int to = 0; to < 6; to++) {
                HeatOrder x = new HeatOrder();
                x.heat(from, 1000, 60, 50, 10000, 1);
                x.heat(to, 1000, 60, 50, 10000, 1);
                Check.due("6 at first from " + from + " to " + to, from == to ? 0 : 500, () -> x.tell(0x10, 2));
            }
        }
    }

    private static void promise6MoveOfAGradeToItself() {
        for (int grade = 0; grade < 6; grade++) {
            int itself = grade;
            HeatOrder x = new HeatOrder();
            x.heat(grade, 1000, 60, 50, 10000, 1);
            x.heat(grade, 1000, 60, 50, 10000, 1);
            Check.due("6 to itself for nothing at first, grade " + grade, 0, () -> x.tell(0x10, 2));
            x.move(itself, itself, 17);
            Check.due("6 to itself for 17", 17, () -> x.tell(0x10, 2));
            x.move(itself, itself, -1);
            Check.due("6 to itself not allowed", 500, () -> x.tell(0x10, 2));
        }
    }

    private static void promise7Run() {
        HeatOrder x = planned();
        Check.refused("7 nodes -1", RANGE, () -> x.run(-1));
        Check.refused("7 nodes 100001", RANGE, () -> x.run(100001));
        plans("7 what is refused changes nothing", x);
        Check.due("7 no nodes", -1, () -> x.run(0));
        Check.refused("7 no plan then", TURN, () -> x.told(0));
        Check.refused("7 no step then", TURN, () -> x.step(0, 0));
        Check.due("7 not proved", 0, () -> x.planned(0));
        Check.due("7 no node", 0, () -> x.planned(1));

        HeatOrder y = new HeatOrder();
        y.heat(0, 1000, 100, 50, 10000, 1);
        y.heat(0, 1000, 60, 50, 110, 1);
        y.costs(0, 1);
        Check.due("7 with two nodes the first plan", 100, () -> y.run(2));
        Check.due("7 it is the plan", 0, () -> y.step(0, 0));
        Check.due("7 not proved", 0, () -> y.planned(0));
        Check.due("7 with all nodes the best plan", 0, () -> y.run(100000));
        Check.due("7 heat 1 is first", 1, () -> y.step(0, 0));
        Check.due("7 proved", 1, () -> y.planned(0));
    }

    private static void promise7TakesTheFirstOfTheBest() {
        HeatOrder x = new HeatOrder();
        for (int k = 0; k < 6; k++) {
            x.heat(0, 1000, 10, 10, 10000, 3);
        }
        x.costs(0, 0);
        Check.due("7 all plans cost nothing", 0, () -> x.run(100000));
        for (int k = 0; k < 6; k++) {
            int at = k;
            Check.due("7 the first plan's heat " + k, k, () -> x.step(at, 0));
            Check.due("7 the first plan's caster " + k, 0, () -> x.step(at, 1));
        }
    }

    private static void promise7HasNoPlanWhenNoneIsGood() {
        HeatOrder x = new HeatOrder();
        x.heat(0, 1000, 1, 500, 0, 1);
        x.heat(0, 1000, 1, 500, 0, 1);
        Check.due("7 none is good", -1, () -> x.run(100000));
        Check.due("7 that is proved", 1, () -> x.planned(0));
        Check.due("7 the first steps are good so far", 2, () -> x.planned(1));
        Check.refused("7 there is no plan", TURN, () -> x.told(0));
        Check.due("7 proved with just as many nodes", -1, () -> x.run(2));
        Check.due("7 proved", 1, () -> x.planned(0));
        Check.due("7 one node fewer", -1, () -> x.run(1));
        Check.due("7 not proved", 0, () -> x.planned(0));
    }

    private static void promise8Planned() {
        HeatOrder x = new HeatOrder();
        Check.refused("8 what -1, index ahead of turn", INDEX, () -> x.planned(-1));
        Check.refused("8 what 2, index ahead of turn", INDEX, () -> x.planned(2));
        x.heat(0, 1000, 60, 50, 10000, 3);
        x.heat(0, 1000, 60, 50, 10000, 3);
        // The first plan costs nothing: two nodes. Four more are given up at once: heat 1 on the
        // other caster behind it, heat 0 on the other caster, heat 1 first on either one.
        Check.due("8 run", 0, () -> x.run(100000));
        Check.due("8 proved", 1, () -> x.planned(0));
        Check.due("8 nodes", 6, () -> x.planned(1));
        Check.refused("8 what 2", INDEX, () -> x.planned(2));
        Check.due("8 run with just as many", 0, () -> x.run(6));
        Check.due("8 proved with just as many", 1, () -> x.planned(0));
        Check.due("8 run with one fewer", 0, () -> x.run(5));
        Check.due("8 not proved with one fewer", 0, () -> x.planned(0));
        Check.due("8 all its nodes", 5, () -> x.planned(1));
        Check.due("8 a node too few for a plan", -1, () -> x.run(1));
        Check.due("8 not proved without a plan", 0, () -> x.planned(0));
        Check.due("8 its one node", 1, () -> x.planned(1));
    }

    private static void promise8OutlivesATelling() {
        HeatOrder x = planned();
        long nodes = x.planned(1);
        x.tell(0x01, 2);
        Check.due("8 a plan told is no planning", 1, () -> x.planned(0));
        Check.due("8 nor changes its nodes", nodes, () -> x.planned(1));
        x.bound();
        x.clash();
        Check.due("8 nor does a clash", nodes, () -> x.planned(1));
    }

    private static void promise9Step() {
        HeatOrder x = new HeatOrder();
        x.heat(0, 1000, 60, 50, 10000, 3);
        x.heat(1, 1000, 70, 55, 10000, 3);
        x.heat(0, 1000, 20, 30, 10000, 3);
        Check.refused("9 turn ahead of index", TURN, () -> x.step(-1, 7));
        Check.due("9 tell", 500, () -> x.tell(0x182, 3));
        // Heat 2 on caster 0, heat 0 on caster 1, heat 1 on caster 0: a change, as no move is allowed.
        Plans.stepIs("9 step 0", x, 0, 2, 0, 0, 20, 20, 50, 0);
        Plans.stepIs("9 step 1", x, 1, 0, 1, 20, 80, 80, 130, 0);
        Plans.stepIs("9 step 2", x, 2, 1, 0, 80, 150, 150, 205, 1);
        Check.refused("9 step -1", INDEX, () -> x.step(-1, 0));
        Check.refused("9 step 3", INDEX, () -> x.step(3, 0));
        Check.refused("9 what -1", INDEX, () -> x.step(0, -1));
        Check.refused("9 what 7", INDEX, () -> x.step(0, 7));
    }

    private static void promise10Told() {
        HeatOrder x = new HeatOrder();
        Check.refused("10 index ahead of turn", INDEX, () -> x.told(4));
        Check.refused("10 what -1", INDEX, () -> x.told(-1));
        Check.refused("10 no plan", TURN, () -> x.told(3));
        x.heat(0, 1000, 60, 50, 100, 1);
        x.heat(1, 1000, 60, 50, 165, 1);
        x.heat(2, 1000, 60, 50, 10000, 1);
        x.move(0, 1, 30);
        x.costs(400, 2);
        // 60 .. 110 (10 late), in sequence 120 .. 170 (5 late), a change, 210 .. 260.
        Check.due("10 tell", 30 + 400 + 30, () -> x.tell(0x210, 3));
        Check.due("10 cost", 460, () -> x.told(0));
        Check.due("10 changes", 1, () -> x.told(1));
        Check.due("10 late minutes", 15, () -> x.told(2));
        Check.due("10 cost of moves", 30, () -> x.told(3));
        Check.refused("10 what 4", INDEX, () -> x.told(4));
        Check.due("10 run", 460, () -> x.run(100000));
        Check.due("10 late minutes of the best", 15, () -> x.told(2));
    }

    private static void promise11TellIndex() {
        HeatOrder x = planned();
        Check.refused("11 n 1", INDEX, () -> x.tell(0x10, 1));
        Check.refused("11 n 3", INDEX, () -> x.tell(0x10, 3));
        Check.refused("11 n -1", INDEX, () -> x.tell(0x10, -1));
        Check.refused("11 n the most", INDEX, () -> x.tell(0x10, Integer.MAX_VALUE));
        Check.refused("11 heat 2", INDEX, () -> x.tell(0x20, 2));
        Check.refused("11 heat 7", INDEX, () -> x.tell(0x07, 2));
        Check.refused("11 heat 0 twice", INDEX, () -> x.tell(0x00, 2));
        Check.refused("11 heat 0 twice on two casters", INDEX, () -> x.tell(0x80, 2));
        Check.refused("11 heat 1 twice", INDEX, () -> x.tell(0x11, 2));
        plans("11 what is refused changes nothing", x);

        HeatOrder y = new HeatOrder();
        y.heat(0, 1000, 60, 50, 10000, 1);
        y.heat(0, 1000, 60, 50, 10000, 1);
        Check.refused("11 index ahead of meaning", INDEX, () -> y.tell(0x08, 2));
        Check.refused("11 n ahead of meaning", INDEX, () -> y.tell(0x18, 3));
        HeatOrder z = new HeatOrder();
        Check.refused("11 a step without heats", INDEX, () -> z.tell(0, 1));
    }

    private static void promise11TellMeaning() {
        HeatOrder x = new HeatOrder();
        x.heat(0, 1000, 60, 50, 10000, 1);
        x.heat(0, 1000, 60, 50, 10000, 2);
        Check.refused("11 caster 0 may not cast heat 1", MEANING, () -> x.tell(0x10, 2));
        Check.refused("11 caster 1 may not cast heat 0", MEANING, () -> x.tell(0x98, 2));
        Check.refused("11 no plan yet", TURN, () -> x.told(0));
        Check.due("11 each on its own", 0, () -> x.tell(0x90, 2));
        Check.due("11 the other way round", 0, () -> x.tell(0x09, 2));
        Check.refused("11 refused again", MEANING, () -> x.tell(0x10, 2));
        Check.due("11 the plan stands: step 0", 1, () -> x.step(0, 0));
        Check.due("11 the plan stands: its caster", 1, () -> x.step(0, 1));
        Check.due("11 the plan stands: step 1", 0, () -> x.step(1, 0));

        HeatOrder y = new HeatOrder();
        y.heat(0, 1000, 1, 500, 10000, 3);
        y.heat(0, 1000, 1, 500, 10000, 3);
        Check.due("11 good on two casters", 0, () -> y.tell(0x18, 2));
        Check.refused("11 not good on one", MEANING, () -> y.tell(0x10, 2));
        Check.due("11 the good one stands", 1, () -> y.step(0, 1));
        Check.due("11 with its minutes", 2, () -> y.step(1, 4));
    }

    private static void promise11TellIsThePlan() {
        HeatOrder x = planned();
        Check.due("11 two steps", 0, () -> x.tell(0x81, 2));
        Check.due("11 heat 1 first", 1, () -> x.step(0, 0));
        Check.due("11 on caster 0", 0, () -> x.step(0, 1));
        Check.due("11 heat 0 then", 0, () -> x.step(1, 0));
        Check.due("11 on caster 1", 1, () -> x.step(1, 1));
        Check.due("11 bits above the steps tell nothing", 0, () -> x.tell(0xFFFFFF10, 2));
        Check.due("11 heat 0 first", 0, () -> x.step(0, 0));

        HeatOrder y = new HeatOrder();
        for (int k = 0; k < 6; k++) {
            y.heat(0, 1000, 10, 10, 10000, 3);
        }
        Check.due("11 six steps", 0, () -> y.tell(0xD493A0, 6));
        int[] heats = {0, 2, 3, 1, 4, 5};
        int[] casters = {0, 1, 0, 1, 0, 1};
        for (int k = 0; k < 6; k++) {
            Plans.stepIs("11 six steps", y, k, heats[k], casters[k], 10 * k, 10 * k + 10, 10 * k + 10, 10 * k + 20, 0);
        }
    }

    private static void promise12Bound() {
        HeatOrder x = new HeatOrder();
        x.heat(0, 1000, 60, 50, 100, 3);
        Check.due("12 ten minutes late", 10, x::bound);
        x.heat(0, 1000, 60, 50, 110, 3);
        Check.due("12 in time at the very minute", 10, x::bound);
        x.heat(0, 1000, 60, 50, 10000, 3);
        Check.due("12 early is worth nothing", 10, x::bound);
        x.heat(5, 2000, 500, 500, 0, 1);
        Check.due("12 summed", 1010, x::bound);
        x.costs(0, 1000);
        Check.due("12 dearest", 1010000, x::bound);
        x.costs(100000, 0);
        Check.due("12 late for nothing", 0, x::bound);
        x.heat(0, 100, 1, 1, 0, 2);
        x.heat(0, 100, 1, 2, 0, 2);
        x.costs(0, 1);
        Check.due("12 of six heats", 1015, x::bound);
        HeatOrder y = planned();
        y.bound();
        plans("12 it changes nothing", y);
    }

    private static void promise13Clash() {
        HeatOrder x = new HeatOrder();
        x.heat(0, 1000, 1, 500, 0, 1);
        Check.due("13 one heat", 0, x::clash);
        x.heat(0, 1000, 1, 500, 0, 2);
        Check.due("13 on two casters", 0, x::clash);
        x.heat(0, 1000, 1, 500, 0, 1);
        Check.due("13 heats 0 and 2 on caster 0", 0b101, x::clash);
        x.heat(0, 1000, 1, 500, 0, 1);
        Check.due("13 heat 0 is left out first", 0b1100, x::clash);
        x.heat(0, 1000, 1, 500, 0, 3);
        x.heat(0, 1000, 1, 500, 0, 2);
        Check.due("13 of six heats", 0b111000, x::clash);
        x.rules(1000, 0, 0, 20, 2000);
        Check.due("13 longer waiting", 0, x::clash);
    }

    private static void promise13UsesEachHeatOnce() {
        HeatOrder x = new HeatOrder();
        x.rules(0, 0, 0, 4, 200);
        x.heat(0, 1000, 1, 100, 0, 1);
        x.heat(0, 1000, 1, 100, 0, 1);
        x.heat(0, 1000, 1, 100, 0, 1);
        Check.due("13 heat 0 is left out", 0b110, x::clash);
        // Its melting gives one heat of caster 0 the time to be cast, but not two of them.
        x.heat(0, 1000, 100, 1, 0, 2);
        Check.due("13 with heat 3 any two of the others are good", 0b0111, x::clash);
    }

    private static void promise13LeavesAlone() {
        HeatOrder x = new HeatOrder();
        x.heat(0, 1000, 1, 500, 0, 1);
        x.heat(0, 1000, 1, 500, 0, 1);
        Check.due("13 none is good", -1, () -> x.run(2));
        Check.due("13 clash", 3, x::clash);
        Check.due("13 the planning stands: proved", 1, () -> x.planned(0));
        Check.due("13 the planning stands: nodes", 2, () -> x.planned(1));
        HeatOrder y = planned();
        y.clash();
        plans("13 it changes nothing", y);
    }

    /** Two heats, a plan that costs nothing, heat 0 first on caster 0: 60 .. 110, then heat 1: 120 .. 170. */
    private static HeatOrder planned() {
        HeatOrder x = new HeatOrder();
        x.heat(0, 1000, 60, 50, 10000, 3);
        x.heat(0, 1000, 60, 50, 10000, 3);
        x.run(100000);
        return x;
    }

    private static void plans(String name, HeatOrder x) {
        Plans.stepIs(name, x, 0, 0, 0, 0, 60, 60, 110, 0);
        Plans.stepIs(name, x, 1, 1, 0, 60, 120, 120, 170, 0);
        Check.due(name + ": cost", 0, () -> x.told(0));
        Check.due(name + ": planning", 1, () -> x.planned(0));
    }

    private static void forgot(String name, HeatOrder x) {
        Check.refused(name + ": no step", TURN, () -> x.step(0, 0));
        Check.refused(name + ": no cost", TURN, () -> x.told(0));
        Check.refused(name + ": no planning", TURN, () -> x.planned(0));
    }

    private static void changes(String name, HeatOrder x, int... wants) {
        for (int k = 0; k < wants.length; k++) {
            int at = k;
            Check.due(name + ": step " + k, wants[k], () -> x.step(at, 6));
        }
    }

    /** Heat 0 (width 1000) is cast 60 .. 110; heat 1 is behind it on the same caster. */
    private static void two(HeatOrder x, int width, int melt) {
        x.heat(0, 1000, 60, 50, 10000, 1);
        x.heat(0, width, melt, 50, 10000, 1);
    }

    private static void tellsTwo(String name, HeatOrder x, int width, int melt, int change, int begins) {
        two(x, width, melt);
        Check.due(name + ": cost", change * 500, () -> x.tell(0x10, 2));
        Check.due(name + ": change", change, () -> x.step(1, 6));
        Check.due(name + ": begins", begins, () -> x.step(1, 4));
    }
}

import java.util.ArrayList;
import java.util.List;
import java.util.Map;
import java.util.Random;
import java.util.TreeMap;

/** Long random runs of calls, each answer against a slow model that works every plan out anew. */
public final class ModelTest {
    private static final int RUNS = 600;
    private static final int CALLS = 160;

    private static final String BY_ORDER = "best by order alone";
    /** Runs that never come by these answers would prove nothing about them. */
    private static final String[] KINDS = {"run proved", "run not proved", "run none proved", "run none not proved",
        BY_ORDER, "tell good", "tell refused", "clash", "no clash", "moves paid", "waits for the hold",
        "change for the move alone", "change for the jump alone", "change for the life alone",
        "change for the gap alone", "in sequence at the jump", "in sequence at the life",
        "in sequence at the gap"};

    public static void main(String[] args) {
        Map<String, Integer> met = new TreeMap<>();
        for (int run = 0; run < RUNS && Check.wrongSoFar() < 20; run++) {
            oneRun(run, met);
        }
        for (String kind : KINDS) {
            Check.report("answers of the kind '" + kind + "' were met", "true",
                    Boolean.toString(met.getOrDefault(kind, 0) >= 100));
        }
        System.out.println(met);
        Check.end();
    }

    private static void oneRun(int seed, Map<String, Integer> met) {
        Random random = new Random(seed);
        HeatOrder real = new HeatOrder();
        Model model = new Model();
        StringBuilder trail = new StringBuilder();
        for (int k = 0; k < CALLS; k++) {
            String before = trail.toString();
            Order order = Order.any(random, seed, model);
            String want = Check.outcome(() -> order.on(model));
            String got = Check.outcome(() -> order.on(real));
            trail.append(order).append("; ");
            Check.report("seed " + seed + ": " + before + "\n    " + order, want, got);
            note(order, want, model, met);
            if (!want.equals(got)) {
                return;
            }
        }
    }

    private static void note(Order order, String want, Model model, Map<String, Integer> met) {
        boolean thrown = want.startsWith("java");
        switch (order.name) {
            case "run":
                if (!thrown) {
                    String none = want.equals("-1") ? "none " : "";
                    met.merge("run " + none + (model.proved ? "proved" : "not proved"), 1, Integer::sum);
                    notePlan(model, met);
                }
                break;
            case "tell":
                met.merge("tell " + (thrown ? "refused" : "good"), 1, Integer::sum);
                if (!thrown) {
                    notePlan(model, met);
                }
                break;
            case "clash":
                met.merge(want.equals("0") ? "no clash" : "clash", 1, Integer::sum);
                break;
            default:
                break;
        }
    }

    private static void notePlan(Model model, Map<String, Integer> met) {
        if (model.plan != null) {
            for (String kind : model.plan.kinds) {
                met.merge(kind, 1, Integer::sum);
            }
        }
    }

    /** A call with its arguments. */
    private static final class Order {
        private static final String[] NAMES = {"heat", "due", "rules", "costs", "move", "run", "run", "planned",
            "planned", "step", "step", "step", "told", "told", "told", "tell", "tell", "tell", "bound", "clash"};
        final String name;
        final int[] args;

        private Order(String name, int... args) {
            this.name = name;
            this.args = args;
        }

        /** Some runs stay with few heats, and all of them ask more than they tell. */
        static Order any(Random r, int seed, Model model) {
            String name = NAMES[r.nextInt(NAMES.length)];
            int most = 2 + seed % 6;
            if (name.equals("heat") && model.heats.size() >= most && r.nextInt(8) != 0) {
                return new Order("bound");
            }
            switch (name) {
                case "heat": case "due": case "rules": case "costs": case "move":
                    return seed / 6 % 2 == 0 ? usual(name, r, seed) : tight(name, r);
                case "run":
                    return new Order(name, r.nextInt(3) == 0 ? 100000 : pick(r, 0, 300, 0, 100000));
                case "planned":
                    return new Order(name, pick(r, 0, 1, 0, 1));
                case "step":
                    return new Order(name, pick(r, 0, 3, 0, 5), pick(r, 0, 6, 0, 6));
                case "told":
                    return new Order(name, pick(r, 0, 3, 0, 3));
                case "tell":
                    return new Order(name, steps(r, model), r.nextInt(12) == 0 ? r.nextInt() : model.heats.size());
                default:
                    return new Order(name);
            }
        }

        /** Minutes, widths and costs as in a shop. */
        private static Order usual(String name, Random r, int seed) {
            switch (name) {
                case "heat":
                    return new Order(name, pick(r, 0, seed % 3, 0, 5), pick(r, 900, 1200, 100, 2000),
                            pick(r, 20, 80, 1, 500), pick(r, 20, 80, 1, 500), pick(r, 0, 400, 0, 10000),
                            pick(r, 1, 3, 1, 3));
                case "due":
                    return new Order(name, pick(r, 0, 5, 0, 5), pick(r, 0, 500, 0, 10000));
                case "rules":
                    return new Order(name, pick(r, 0, 100, 0, 1000), pick(r, 0, 60, 0, 500), pick(r, 0, 40, 0, 500),
                            pick(r, 1, 4, 1, 20), pick(r, 0, 300, 0, 2000));
                case "costs":
                    return new Order(name, pick(r, 0, 300, 0, 100000), pick(r, 0, 3, 0, 1000));
                default:
                    return new Order(name, pick(r, 0, 2, 0, 5), pick(r, 0, 2, 0, 5), pick(r, -1, 100, -1, 10000));
            }
        }

        /** Small numbers, so that minutes meet, widths lie a jump apart and plans cost the same. */
        private static Order tight(String name, Random r) {
            switch (name) {
                case "heat":
                    return new Order(name, pick(r, 0, 1, 0, 5), pick(r, 1000, 1003, 100, 2000), pick(r, 1, 4, 1, 500),
                            pick(r, 1, 4, 1, 500), pick(r, 0, 20, 0, 10000), pick(r, 1, 3, 1, 3));
                case "due":
                    return new Order(name, pick(r, 0, 5, 0, 5), pick(r, 0, 20, 0, 10000));
                case "rules":
                    return new Order(name, pick(r, 0, 8, 0, 1000), pick(r, 0, 4, 0, 500), pick(r, 0, 4, 0, 500),
                            pick(r, 1, 4, 1, 20), pick(r, 0, 4, 0, 2000));
                case "costs":
                    return new Order(name, pick(r, 0, 4, 0, 100000), pick(r, 0, 2, 0, 1000));
                default:
                    return new Order(name, pick(r, 0, 1, 0, 5), pick(r, 0, 1, 0, 5), pick(r, -1, 3, -1, 10000));
            }
        }

        /** Mostly of the usual range, now and then an edge of the whole one, or behind it. */
        private static int pick(Random r, int low, int high, int least, int most) {
            switch (r.nextInt(60)) {
                case 0: return least;
                case 1: return most;
                case 2: return r.nextInt(3) == 0 ? least - 1 : least;
                case 3: return r.nextInt(3) == 0 ? most + 1 : most;
                case 4: return r.nextInt(6) == 0 ? r.nextInt() : low;
                default: return low + r.nextInt(high - low + 1);
            }
        }

        private static int steps(Random r, Model model) {
            if (r.nextInt(6) == 0) {
                return r.nextInt();
            }
            List<Integer> left = new ArrayList<>();
            for (int heat = 0; heat < model.heats.size(); heat++) {
                left.add(heat);
            }
            int steps = 0;
            for (int k = 0; k < model.heats.size(); k++) {
                int heat = left.remove(r.nextInt(left.size()));
                int casters = model.heats.get(heat)[5];
                int caster = casters == 3 || r.nextInt(20) == 0 ? r.nextInt(2) : casters - 1;
                steps |= (heat | caster << 3) << 4 * k;
            }
            return steps;
        }

        long on(HeatOrder x) {
            switch (name) {
                case "heat": return x.heat(args[0], args[1], args[2], args[3], args[4], args[5]);
                case "due": x.due(args[0], args[1]); return 0;
                case "rules": x.rules(args[0], args[1], args[2], args[3], args[4]); return 0;
                case "costs": x.costs(args[0], args[1]); return 0;
                case "move": x.move(args[0], args[1], args[2]); return 0;
                case "run": return x.run(args[0]);
                case "planned": return x.planned(args[0]);
                case "step": return x.step(args[0], args[1]);
                case "told": return x.told(args[0]);
                case "tell": return x.tell(args[0], args[1]);
                case "bound": return x.bound();
                default: return x.clash();
            }
        }

        long on(Model x) {
            switch (name) {
                case "heat": return x.heat(args);
                case "due": return x.due(args[0], args[1]);
                case "rules": return x.rules(args);
                case "costs": return x.costs(args[0], args[1]);
                case "move": return x.move(args[0], args[1], args[2]);
                case "run": return x.run(args[0]);
                case "planned": return x.planned(args[0]);
                case "step": return x.step(args[0], args[1]);
                case "told": return x.told(args[0]);
                case "tell": return x.tell(args[0], args[1]);
                case "bound": return x.bound();
                default: return x.clash();
            }
        }

        @Override
        public String toString() {
            StringBuilder text = new StringBuilder(name).append('(');
            for (int k = 0; k < args.length; k++) {
                text.append(k == 0 ? "" : ", ").append(args[k]);
            }
            return text.append(')').toString();
        }
    }

    /** The document in its plainest words; a plan is a list of {heat, caster} and is worked out as a whole. */
    private static final class Model {
        final List<int[]> heats = new ArrayList<>();
        int[] rules = {60, 40, 10, 4, 200};
        int changeCost = 500;
        int lateCost = 1;
        final Map<List<Integer>, Integer> allowed = new TreeMap<>((a, b) -> a.toString().compareTo(b.toString()));
        Told plan = null;
        boolean hasPlanning = false;
        boolean proved = false;
        int nodes = 0;
        private int limit = 0;

        Model() {
            for (int grade = 0; grade < 6; grade++) {
                allowed.put(List.of(grade, grade), 0);
            }
        }

        /** A plan worked out: seven answers a step, and the sums. */
        private static final class Told {
            final List<int[]> rows = new ArrayList<>();
            final List<String> kinds = new ArrayList<>();
            boolean good = true;
            long changes = 0;
            long late = 0;
            long moves = 0;
            long cost = 0;
        }

        private Told work(List<int[]> steps) {
            Told told = new Told();
            int melted = 0;
            int[] last = {-1, -1};
            int[] ended = new int[2];
            int[] poured = new int[2];
            for (int[] step : steps) {
                int[] heat = heats.get(step[0]);
                int c = step[1];
                int from = melted;
                melted += heat[2];
                int begins = melted;
                int change = 0;
                if (last[c] >= 0) {
                    int[] before = heats.get(last[c]);
                    Integer move = allowed.get(List.of(before[0], heat[0]));
                    int apart = before[1] > heat[1] ? before[1] - heat[1] : heat[1] - before[1];
                    int gap = melted - ended[c];
                    told.kinds.addAll(kindsOf(move, apart, poured[c], gap));
                    if (move != null && apart <= rules[4] && poured[c] < rules[3] && gap <= rules[2]) {
                        begins = Math.max(melted, ended[c]);
                        told.moves += move;
                    } else {
                        change = 1;
                        poured[c] = 0;
                        begins = Math.max(melted, ended[c] + rules[1]);
                    }
                }
                poured[c]++;
                last[c] = step[0];
                ended[c] = begins + heat[3];
                told.changes += change;
                told.late += ended[c] > heat[4] ? ended[c] - heat[4] : 0;
                if (rules[0] > 0 && begins == melted + rules[0]) {
                    told.kinds.add("waits for the hold");
                }
                told.good &= begins <= melted + rules[0];
                told.rows.add(new int[] {step[0], c, from, melted, begins, ended[c], change});
            }
            told.cost = told.moves + told.changes * changeCost + told.late * lateCost;
            return told;
        }

        /** The one thing that stands against the sequence; or, when none does, all that nearly do. */
        private List<String> kindsOf(Integer move, int apart, int poured, int gap) {
            List<String> against = new ArrayList<>();
            List<String> nearly = new ArrayList<>();
            if (move == null) {
                against.add("move");
            } else if (move > 0) {
                nearly.add("moves paid");
            }
            weigh("jump", apart, rules[4], against, nearly);
            weigh("life", poured + 1, rules[3], against, nearly);
            weigh("gap", gap, rules[2], against, nearly);
            if (against.isEmpty()) {
                return nearly;
            }
            return against.size() == 1 ? List.of("change for the " + against.get(0) + " alone") : List.of();
        }

        private static void weigh(String name, int value, int most, List<String> against, List<String> nearly) {
            if (value > most) {
                against.add(name);
            } else if (value == most) {
                nearly.add("in sequence at the " + name);
            }
        }

        private static void index(boolean bad) {
            if (bad) {
                throw new IndexOutOfBoundsException();
            }
        }

        private static void turn(boolean bad) {
            if (bad) {
                throw new IllegalStateException();
            }
        }

        private static void range(int value, int least, int most) {
            if (value < least || value > most) {
                throw new IllegalArgumentException();
            }
        }

        private static void meaning(boolean bad) {
            if (bad) {
                throw new UnsupportedOperationException();
            }
        }

        private void gone() {
            plan = null;
            hasPlanning = false;
        }

        long heat(int[] args) {
            turn(heats.size() == 6);
            range(args[0], 0, 5);
            range(args[1], 100, 2000);
            range(args[2], 1, 500);
            range(args[3], 1, 500);
            range(args[4], 0, 10000);
            range(args[5], 1, 3);
            gone();
            heats.add(args.clone());
            return heats.size() - 1;
        }

        long due(int heat, int minute) {
            index(heat < 0 || heat >= heats.size());
            range(minute, 0, 10000);
            gone();
            heats.get(heat)[4] = minute;
            return 0;
        }

        long rules(int[] args) {
            range(args[0], 0, 1000);
            range(args[1], 0, 500);
            range(args[2], 0, 500);
            range(args[3], 1, 20);
            range(args[4], 0, 2000);
            gone();
            rules = args.clone();
            return 0;
        }

        long costs(int change, int late) {
            range(change, 0, 100000);
            range(late, 0, 1000);
            gone();
            changeCost = change;
            lateCost = late;
            return 0;
        }

        long move(int from, int to, int cost) {
            index(from < 0 || from > 5 || to < 0 || to > 5);
            range(cost, -1, 10000);
            gone();
            if (cost == -1) {
                allowed.remove(List.of(from, to));
            } else {
                allowed.put(List.of(from, to), cost);
            }
            return 0;
        }

        long run(int most) {
            range(most, 0, 100000);
            plan = null;
            hasPlanning = true;
            proved = true;
            nodes = 0;
            limit = most;
            further(new ArrayList<>());
            if (proved) {
                Told best = null;
                for (Told told : goodPlans((1 << heats.size()) - 1)) {
                    if (best == null || told.cost < best.cost) {
                        best = told;
                    } else if (told.cost == best.cost && !best.kinds.contains(BY_ORDER)) {
                        best.kinds.add(BY_ORDER);
                    }
                }
                plan = best;
            }
            return plan == null ? -1 : plan.cost;
        }

        /** False when planning has ended. */
        private boolean further(List<int[]> steps) {
            if (steps.size() == heats.size()) {
                plan = work(steps);
                return true;
            }
            for (int heat = 0; heat < heats.size(); heat++) {
                for (int caster = 0; caster < 2; caster++) {
                    if (names(steps, heat) || (heats.get(heat)[5] & 1 << caster) == 0) {
                        continue;
                    }
                    List<int[]> more = new ArrayList<>(steps);
                    more.add(new int[] {heat, caster});
                    Told told = work(more);
                    if (!told.good) {
                        continue;
                    }
                    if (nodes == limit) {
                        proved = false;
                        return false;
                    }
                    nodes++;
                    if ((plan == null || told.cost < plan.cost) && !further(more)) {
                        return false;
                    }
                }
            }
            return true;
        }

        private static boolean names(List<int[]> steps, int heat) {
            for (int[] step : steps) {
                if (step[0] == heat) {
                    return true;
                }
            }
            return false;
        }

        /** All good plans of these heats, in their order. */
        private List<Told> goodPlans(int heatBits) {
            List<Told> plans = new ArrayList<>();
            gather(heatBits, new ArrayList<>(), plans);
            return plans;
        }

        private void gather(int left, List<int[]> steps, List<Told> plans) {
            Told told = work(steps);
            if (!told.good) {
                return;
            }
            if (left == 0) {
                plans.add(told);
            }
            for (int heat = 0; heat < heats.size(); heat++) {
                for (int caster = 0; caster < 2; caster++) {
                    if ((left & 1 << heat) != 0 && (heats.get(heat)[5] & 1 << caster) != 0) {
                        steps.add(new int[] {heat, caster});
                        gather(left - (1 << heat), steps, plans);
                        steps.remove(steps.size() - 1);
                    }
                }
            }
        }

        long planned(int what) {
            index(what < 0 || what > 1);
            turn(!hasPlanning);
            return what == 1 ? nodes : proved ? 1 : 0;
        }

        long step(int k, int what) {
            turn(plan == null);
            index(k < 0 || k >= plan.rows.size() || what < 0 || what > 6);
            return plan.rows.get(k)[what];
        }

        long told(int what) {
            index(what < 0 || what > 3);
            turn(plan == null);
            return new long[] {plan.cost, plan.changes, plan.late, plan.moves}[what];
        }

        long tell(int bits, int n) {
            index(n != heats.size());
            List<int[]> steps = new ArrayList<>();
            for (int k = 0; k < n; k++) {
                int four = bits >>> 4 * k & 15;
                index(four % 8 >= heats.size() || names(steps, four % 8));
                steps.add(new int[] {four % 8, four / 8});
            }
            for (int[] step : steps) {
                meaning((heats.get(step[0])[5] & 1 << step[1]) == 0);
            }
            Told told = work(steps);
            meaning(!told.good);
            plan = told;
            return told.cost;
        }

        long bound() {
            long sum = 0;
            for (int[] heat : heats) {
                int end = heat[2] + heat[3];
                sum += end > heat[4] ? (long) (end - heat[4]) * lateCost : 0;
            }
            return sum;
        }

        long clash() {
            int left = (1 << heats.size()) - 1;
            if (!goodPlans(left).isEmpty()) {
                return 0;
            }
            for (int heat = 0; heat < heats.size(); heat++) {
                if (goodPlans(left - (1 << heat)).isEmpty()) {
                    left -= 1 << heat;
                }
            }
            return left;
        }
    }
}

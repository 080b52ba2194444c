/** Heats and steps that more than one test is about. */
final class Plans {
    private Plans() {
    }

    /** Heats that none has to wait for, in any order and on any caster: step k is cast 10 k + 10 .. 10 k + 20. */
    static HeatOrder heats(int n, int casters) {
        HeatOrder x = new HeatOrder();
        for (int k = 0; k < n; k++) {
            x.heat(0, 1000, 10, 10, 10000, casters);
        }
        return x;
    }

    /** Compares the answers 0, 1, .. of step k, as many as are given. */
    static void stepIs(String name, HeatOrder x, int k, int... wants) {
        for (int what = 0; what < wants.length; what++) {
            int asked = what;
            Check.due(name + ": step " + k + ", " + what, wants[what], () -> x.step(k, asked));
        }
    }
}

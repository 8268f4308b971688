import java.util.Random;

/**
 * Long runs of mixed calls, each of at most 512 calls on a new object, against the model. The seeds
 * are written out, so that every run of the test makes the same calls.
 */
public final class ModelTest {
    private static final int RUNS = 6000;
    private static final int CALLS = 512;

    /** How often each call is made, in the face's order; the last row comes to the day 5000. */
    private static final int[][] MIXES = {
        {30, 12, 6, 3, 1, 2, 3, 3, 3, 1, 1, 6, 1, 3, 6, 10, 6, 4, 8, 6, 6},
        {60, 6, 2, 1, 0, 1, 1, 1, 1, 1, 1, 2, 1, 2, 8, 16, 6, 4, 8, 6, 8},
        {25, 30, 2, 1, 0, 1, 1, 1, 1, 1, 1, 2, 1, 2, 8, 16, 6, 6, 12, 8, 6},
        {30, 2, 25, 3, 1, 2, 1, 4, 1, 3, 1, 12, 1, 2, 6, 12, 4, 3, 6, 6, 6},
        {20, 4, 12, 3, 1, 1, 1, 2, 1, 2, 1, 90, 1, 2, 4, 8, 3, 3, 6, 4, 5},
    };

    private final Check check;
    private final Random dice;
    private final int mostCases;
    private final int[] mix;
    private final PageBail real = new PageBail();
    private final Model model = new Model();

    private ModelTest(Check check, int seed) {
        this.check = check;
        dice = new Random(seed);
        mix = MIXES[seed % MIXES.length];
        int[] ranges = {12, 30, 100, 1000};
        mostCases = ranges[seed / MIXES.length % ranges.length];
    }

    public static void main(String[] args) {
        Check check = new Check("ModelTest");
        for (int seed = 0; seed < RUNS; seed++) {
            ModelTest run = new ModelTest(check, seed);
            boolean same = true;
            for (int call = 0; call < CALLS && same; call++) {
                same = run.oneCall("seed " + seed + ", call " + call + ": ");
            }
            check.due("the run of the seed " + seed, true, same);
        }
        check.end();
    }

    private int drawCall() {
        int all = 0;
        for (int weight : mix) {
            all += weight;
        }
        int drawn = dice.nextInt(all);
        int call = 0;
        while (drawn >= mix[call]) {
            drawn -= mix[call];
            call++;
        }
        return call;
    }

    /** Mostly within the range, now and then at its edges, just outside it, or far outside. */
    private int draw(int least, int most) {
        int kind = dice.nextInt(60);
        switch (kind) {
            case 0: return least - 1;
            case 1: return most + 1;
            case 2: return least;
            case 3: return most;
            case 4: return dice.nextInt();
            default: return least + dice.nextInt(Math.max(most - least + 1, 1));
        }
    }

    private int drawCase() {
        return dice.nextInt(30) == 0 ? draw(0, 999) : dice.nextInt(mostCases);
    }

    private boolean oneCall(String where) {
        int call = drawCall();
        int a = drawFirst(call);
        int b = call == 0 || call == 4 ? drawSecond(call) : draw(0, 3);
        int c = draw(0, 9);
        Object want = outcome(() -> ofModel(call, a, b, c));
        Object got = outcome(() -> ofReal(call, a, b, c));
        if (!want.equals(got)) {
            check.due(where + "call " + call + " with " + a + ", " + b + ", " + c, want, got);
        }
        return want.equals(got);
    }

    private int drawFirst(int call) {
        switch (call) {
            case 4: return dice.nextInt(3) == 0 ? draw(1, 10000) : draw(1, 20);
            case 8: return draw(0, 9);
            case 11: return dice.nextInt(3) == 0 ? draw(1, 100) : draw(1, 15);
            case 14: case 15: return draw(0, Math.max(model.pages() - 1, 0));
            case 18: return dice.nextInt(3) == 0 ? draw(1, 100) : draw(1, 3);
            case 20: return draw(0, 3);
            default: return drawCase();
        }
    }

    private int drawSecond(int call) {
        if (call == 4) {
            return draw(0, model.today());
        }
        return dice.nextInt(3) == 0 ? draw(1, 10000) : draw(1, 60);
    }

    private static Object outcome(Check.Call call) {
        try {
            return call.answer();
        } catch (RuntimeException e) {
            return e.getClass();
        }
    }

    private Object ofReal(int call, int a, int b, int c) {
        switch (call) {
            case 0: return real.put(a, b, c);
            case 1: return real.payBack(a);
            case 2: real.forfeit(a); return 0;
            case 3: return real.undo(a);
            case 4: return real.amnesty(a, b);
            case 5: return real.records();
            case 6: return real.sum(a);
            case 7: return real.isForfeited(a) ? 1 : 0;
            case 8: return real.heldBy(a);
            case 9: return real.kept();
            case 10: return real.paidBack();
            case 11: return real.pass(a);
            case 12: return real.today();
            case 13: return real.pages();
            case 14: return real.size(a);
            case 15: return real.at(a, b);
            case 16: return real.pageOf(a);
            case 17: real.sweep(); return 0;
            case 18: return real.step(a);
            case 19: return real.sweeping();
            default: return real.walk(a);
        }
    }

    private Object ofModel(int call, int a, int b, int c) {
        switch (call) {
            case 0: return model.put(a, b, c);
            case 1: return model.payBack(a);
            case 2: return model.forfeit(a);
            case 3: return model.undo(a);
            case 4: return model.amnesty(a, b);
            case 5: return model.records();
            case 6: return model.sum(a);
            case 7: return model.isForfeited(a);
            case 8: return model.heldBy(a);
            case 9: return model.kept();
            case 10: return model.paidBack();
            case 11: return model.pass(a);
            case 12: return model.today();
            case 13: return model.pages();
            case 14: return model.size(a);
            case 15: return model.at(a, b);
            case 16: return model.pageOf(a);
            case 17: return model.sweep();
            case 18: return model.step(a);
            case 19: return model.sweeping();
            default: return model.walk(a);
        }
    }
}

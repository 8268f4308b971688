import java.util.Objects;

/** Counts the answers that are due, and prints those that are not, with the sentence they break. */
final class Check {
    interface Call {
        Object answer();
    }

    /** Makes a new object, each time in the same state. */
    interface Maker {
        PageBail make();
    }

    interface Act {
        Object on(PageBail x);
    }

    private final String name;
    private String sentence = "";
    private int passed;
    private int failed;

    Check(String name) {
        this.name = name;
    }

    /** What is checked from here on holds this sentence of this part of the document. */
    void holds(String part, String words) {
        sentence = part + ", \"" + words + "\": ";
    }

    /** One test after the other; what one throws is its own failure, and the next one runs. */
    void run(Runnable... tests) {
        for (Runnable test : tests) {
            try {
                test.run();
            } catch (RuntimeException e) {
                due("a call", "an answer", e.toString());
            }
        }
        end();
    }

    void due(String what, Object want, Object got) {
        if (Objects.equals(want, got)) {
            passed++;
        } else {
            failed++;
            String where = name + ": " + sentence + what;
            System.out.println(where + " answered " + got + ", due is " + want);
        }
    }

    void pages(String what, String want, PageBail x) {
        due("the pages: " + what, want, Look.pages(x));
    }

    void throwsOnly(String what, Class<?> want, Call call) {
        due(what, want, thrownBy(call));
    }

    /**
     * Of two objects in the same state one gets the call: it throws just this class (no subclass of
     * it), and both answer the same from then on. Two new ones for each call, as an object has only
     * 512 calls and to look at all of it takes many.
     */
    void refused(String what, Class<?> want, Maker maker, Act act) {
        PageBail called = maker.make();
        PageBail spared = maker.make();
        throwsOnly(what, want, () -> act.on(called));
        due("all behind " + what, Look.all(spared), Look.all(called));
    }

    void illegalArgument(String what, Maker maker, Act act) {
        refused(what, IllegalArgumentException.class, maker, act);
    }

    void illegalState(String what, Maker maker, Act act) {
        refused(what, IllegalStateException.class, maker, act);
    }

    void outOfBounds(String what, Maker maker, Act act) {
        refused(what, IndexOutOfBoundsException.class, maker, act);
    }

    static Object thrownBy(Call call) {
        try {
            call.answer();
            return "nothing";
        } catch (RuntimeException e) {
            return e.getClass();
        }
    }

    void end() {
        System.out.println(name + ": " + passed + " passed, " + failed + " failed");
        if (failed != 0) {
            System.exit(1);
        }
    }
}

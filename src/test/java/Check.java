import java.util.Objects;

/** Counts the answers that are due, and prints those that are not. */
final class Check {
    interface Call {
        Object answer();
    }

    private final String name;
    private int passed;
    private int failed;

    Check(String name) {
        this.name = name;
    }

    void due(String what, Object want, Object got) {
        if (Objects.equals(want, got)) {
            passed++;
        } else {
            failed++;
            System.out.println(name + ": " + what + " answered " + got + ", due is " + want);
        }
    }

    /** The call has to throw just this class (no subclass of it), and to change nothing. */
    void refused(String what, Class<?> want, PageBail x, Call call) {
        String before = Look.whole(x);
        due(what, want, thrownBy(call));
        due("the state behind " + what, before, Look.whole(x));
    }

    void illegalArgument(String what, PageBail x, Call call) {
        refused(what, IllegalArgumentException.class, x, call);
    }

    void illegalState(String what, PageBail x, Call call) {
        refused(what, IllegalStateException.class, x, call);
    }

    void outOfBounds(String what, PageBail x, Call call) {
        refused(what, IndexOutOfBoundsException.class, x, call);
    }

    static Object thrownBy(Call call) {
        try {
            call.answer();
            return "nothing";
        } catch (RuntimeException e) {
            return e.getClass();
        }
    }

    void end() {
        System.out.println(name + ": " + passed + " passed, " + failed + " failed");
        if (failed != 0) {
            System.exit(1);
        }
    }
}

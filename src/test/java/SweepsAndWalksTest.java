/** Promises 19 to 22: sweep, step, sweeping, walk. */
public final class SweepsAndWalksTest {
    private static final Check check = new Check("SweepsAndWalksTest");

    public static void main(String[] args) {
        check.run(
                SweepsAndWalksTest::promise19Begins,
                SweepsAndWalksTest::promise19OneGoesOn,
                SweepsAndWalksTest::promise20Steps,
                SweepsAndWalksTest::promise20NoMoreWhenItIsOver,
                SweepsAndWalksTest::promise20ReturnsHowManyItMoves,
                SweepsAndWalksTest::promise20NoneGoesOn,
                SweepsAndWalksTest::promise21ThePageAtWhichItIs,
                SweepsAndWalksTest::promise21NoneIfNoneGoesOn,
                SweepsAndWalksTest::promise22Reader,
                SweepsAndWalksTest::promise22TheCaseOfTheRecord,
                SweepsAndWalksTest::promise22NoneBehindTheLastOne);
    }

    private static PageBail sweptFrom(String pages) {
        PageBail x = Look.laid(pages);
        x.sweep();
        return x;
    }

    private static void promise19Begins() {
        check.holds("Promise 19", "Begins a sweep.");
        PageBail x = sweptFrom("1 2 | 3 4 5");
        check.due("sweeping()", 0, x.sweeping());
        check.pages("none moved yet", "1 2 | 3 4 5", x);
        check.due("step(3)", 2, x.step(3));
        check.due("step(1)", 0, x.step(1));
        check.due("sweeping(), over", PageBail.NONE, x.sweeping());
        x.sweep();
        check.due("sweeping(), another one", 0, x.sweeping());
    }

    private static void promise19OneGoesOn() {
        check.holds("Promise 19", "Throws `IllegalStateException` if one goes on");
        check.illegalState("sweep() at the page 0", () -> sweptFrom("1 2 | 3 4"), Look::sweep);
        check.illegalState("sweep() without pages", () -> {
            PageBail x = new PageBail();
            x.sweep();
            return x;
        }, Look::sweep);
        check.illegalState("sweep() at the last page", () -> {
            PageBail x = sweptFrom("1 2 3 4 | 5 6");
            x.step(1);
            return x;
        }, Look::sweep);
    }

    private static void promise20Steps() {
        check.holds("Promise 20", "`steps`: 1 to 100");
        check.due("step(1)", 1, sweptFrom("1 2 | 3 4 5").step(1));
        check.due("step(2)", 2, sweptFrom("1 2 | 3 4 5").step(2));
        check.due("step(99)", 2, sweptFrom("1 2 | 3 4 5").step(99));
        check.due("step(100)", 2, sweptFrom("1 2 | 3 4 5").step(100));
        for (int steps : Look.outside(1, 100)) {
            check.illegalArgument("step(" + steps + ")", () -> sweptFrom("1 2 | 3 4 5"),
                    x -> x.step(steps));
            check.illegalArgument("step(" + steps + ") of none", () -> Look.laid("1 2 | 3 4 5"),
                    x -> x.step(steps));
        }
    }

    private static void promise20NoMoreWhenItIsOver() {
        check.holds("Promise 20", "Lets the sweep do steps; no more when it is over.");
        PageBail x = sweptFrom("1 2 | 3 4 5 6");
        check.due("step(3), two moved and one went on", 2, x.step(3));
        check.due("sweeping(), not yet over", 1, x.sweeping());
        check.due("step(1)", 0, x.step(1));
        check.due("sweeping(), over", PageBail.NONE, x.sweeping());
        PageBail y = sweptFrom("1 2 | 3 4 5 6");
        check.due("step(4)", 2, y.step(4));
        check.due("sweeping() at once", PageBail.NONE, y.sweeping());
        PageBail z = sweptFrom("1 2 | 3 4 5 6");
        check.due("step(100), far more than it needs", 2, z.step(100));
        check.pages("packed", "1 2 3 4 | 5 6", z);
        check.due("sweeping(), no other sweep begins", PageBail.NONE, z.sweeping());
    }

    private static void promise20ReturnsHowManyItMoves() {
        check.holds("Promise 20", "Returns how many records it moves.");
        check.due("step(1) that goes on", 0, sweptFrom("1 2 3 4 | 5 6").step(1));
        check.due("step(1) at its end", 0, sweptFrom("1 2").step(1));
        check.due("step(5), 3, 4, then on, then 7 and 8", 4,
                sweptFrom("1 2 | 3 4 | 5 6 | 7 8 9").step(5));
        PageBail x = Look.full();
        x.sweep();
        check.due("step(100) of 80 records", 38, x.step(100));
        check.due("pages()", 20, x.pages());
        check.due("sweeping()", PageBail.NONE, x.sweeping());
        x.sweep();
        check.due("step(100) of what is packed", 0, x.step(100));
        check.due("pages()", 20, x.pages());
    }

    private static void promise20NoneGoesOn() {
        check.holds("Promise 20", "Throws `IllegalStateException` if none goes on");
        check.illegalState("step(1) of a new object", PageBail::new, x -> x.step(1));
        check.illegalState("step(100) with pages", () -> Look.laid("1 2 | 3 4 5"),
                x -> x.step(100));
        check.illegalState("step(1) when it is over", () -> {
            PageBail x = sweptFrom("1 2 | 3 4 5");
            x.step(100);
            return x;
        }, x -> x.step(1));
        check.illegalState("step(1) when its page is gone", () -> {
            PageBail x = sweptFrom("1 2 | 3 4 5");
            x.amnesty(10000, 0);
            return x;
        }, x -> x.step(1));
    }

    private static void promise21ThePageAtWhichItIs() {
        check.holds("Promise 21", "Returns the page at which the sweep is");
        PageBail x = sweptFrom("1 2 3 | 4 5 6 | 7 8 9");
        int[] due = {0, 1, 1, 1, 2, PageBail.NONE};
        for (int i = 0; i < due.length; i++) {
            x.step(1);
            check.due("sweeping() behind the step " + (i + 1), due[i], x.sweeping());
        }
        check.pages("packed", "1 2 3 4 | 5 6 7 8 | 9", x);
    }

    private static void promise21NoneIfNoneGoesOn() {
        check.holds("Promise 21", "NONE if none goes on");
        PageBail x = new PageBail();
        check.due("sweeping() at first", PageBail.NONE, x.sweeping());
        Look.put(x, 1, 2, 3, 4, 5);
        check.due("sweeping() with pages", PageBail.NONE, x.sweeping());
        x.sweep();
        x.step(100);
        check.due("sweeping() when it is over", PageBail.NONE, x.sweeping());
        x.payBack(1);
        check.due("sweeping() later", PageBail.NONE, x.sweeping());
    }

    private static void promise22Reader() {
        check.holds("Promise 22", "`reader`: 0 to 3");
        for (int reader = 0; reader <= 3; reader++) {
            PageBail x = Look.with(10, 20);
            check.due("walk(" + reader + ")", 10, x.walk(reader));
            check.due("walk(" + reader + ") again", 20, x.walk(reader));
        }
        for (int reader : Look.outside(0, 3)) {
            check.illegalArgument("walk(" + reader + ")", () -> {
                PageBail x = Look.with(10, 20, 30);
                x.walk(0);
                x.walk(3);
                x.walk(3);
                return x;
            }, x -> x.walk(reader));
        }
    }

    private static void promise22TheCaseOfTheRecord() {
        check.holds("Promise 22", "Returns the case of the record");
        PageBail x = Look.with(999, 0, 500);
        check.due("walk(0), the least case", 0, x.walk(0));
        check.due("walk(0)", 500, x.walk(0));
        check.due("walk(0), the greatest case", 999, x.walk(0));
        check.pages("walks change no record", "0 500 999", x);
    }

    private static void promise22NoneBehindTheLastOne() {
        check.holds("Promise 22", "NONE behind the last one");
        check.due("walk(3) without records", PageBail.NONE, new PageBail().walk(3));
        PageBail x = Look.with(999);
        check.due("walk(3)", 999, x.walk(3));
        check.due("walk(3) behind the greatest case", PageBail.NONE, x.walk(3));
        PageBail y = Look.with(0);
        check.due("walk(2)", 0, y.walk(2));
        check.due("walk(2) behind the least case", PageBail.NONE, y.walk(2));
        check.due("walk(2) from ahead of all", 0, y.walk(2));
    }
}

/** Promises 19 to 22: sweep, step, sweeping, walk. */
public final class SweepsAndWalksTest {
    private static final Check check = new Check("SweepsAndWalksTest");

    public static void main(String[] args) {
        promise19Sweep();
        promise20StepMovesOnAndPacks();
        promise20StepRefuses();
        promise20StepNeitherBorrowsNorJoins();
        promise21SweepingStaysAtTheNumber();
        promise21SweepingIsOverWithoutItsPage();
        promise22Walk();
        promise22WalkMeanwhile();
        promise22WalkRefuses();
        check.end();
    }

    private static Object sweep(PageBail x) {
        x.sweep();
        return null;
    }

    private static void promise19Sweep() {
        PageBail x = new PageBail();
        x.sweep();
        check.due("sweeping() without pages", 0, x.sweeping());
        check.illegalState("sweep() while one goes on", x, () -> sweep(x));
        check.due("step(100) without pages", 0, x.step(100));
        check.due("sweeping()", PageBail.NONE, x.sweeping());
        x.sweep();
        check.due("sweeping() again", 0, x.sweeping());
        Look.put(x, 1, 2, 3, 4, 5, 6, 7);
        x.step(3);
        check.due("sweeping()", 1, x.sweeping());
        check.illegalState("sweep() while one is at the page 1", x, () -> sweep(x));
        check.due("sweeping() stays", 1, x.sweeping());
    }

    private static void promise20StepMovesOnAndPacks() {
        PageBail x = Look.with(1, 2, 3, 4, 5, 6, 7);
        check.due("pages", "1 2 | 3 4 | 5 6 7", Look.pages(x));
        x.sweep();
        check.due("step(1) moves a record", 1, x.step(1));
        check.due("pages", "1 2 3 | 4 | 5 6 7", Look.pages(x));
        check.due("step(1) takes the last record of the next page", 1, x.step(1));
        check.due("pages", "1 2 3 4 | 5 6 7", Look.pages(x));
        check.due("step(1) goes on to the next page", 0, x.step(1));
        check.due("sweeping()", 1, x.sweeping());
        check.due("pages", "1 2 3 4 | 5 6 7", Look.pages(x));
        check.due("step(1) with no page behind is over", 0, x.step(1));
        check.due("sweeping()", PageBail.NONE, x.sweeping());

        PageBail y = Look.with(1, 2, 3, 4, 5, 6, 7);
        y.sweep();
        check.due("step(3) counts moves, not steps", 2, y.step(3));
        check.due("sweeping()", 1, y.sweeping());
        check.due("step(100) does no more when it is over", 0, y.step(100));
        check.due("sweeping()", PageBail.NONE, y.sweeping());
        y.sweep();
        check.due("step(100) of what is packed", 0, y.step(100));

        PageBail z = Look.with(1, 2, 3, 4);
        z.sweep();
        check.due("step(1) of one page that is full", 0, z.step(1));
        check.due("sweeping()", PageBail.NONE, z.sweeping());
    }

    private static void promise20StepRefuses() {
        PageBail x = Look.with(1, 2, 3, 4, 5);
        int[] bad = {0, -1, 101, Integer.MIN_VALUE, Integer.MAX_VALUE};
        for (int steps : bad) {
            check.illegalArgument("step(" + steps + ") with no sweep", x, () -> x.step(steps));
        }
        check.illegalState("step(1) with no sweep", x, () -> x.step(1));
        check.illegalState("step(100) with no sweep", x, () -> x.step(100));
        x.sweep();
        for (int steps : bad) {
            check.illegalArgument("step(" + steps + ")", x, () -> x.step(steps));
        }
        check.due("step(100)", 2, x.step(100));
        check.illegalState("step(1) when it is over", x, () -> x.step(1));
    }

    private static void promise20StepNeitherBorrowsNorJoins() {
        PageBail x = Look.with(1, 2, 3, 4, 5, 6, 7, 8);
        check.due("pages", "1 2 | 3 4 | 5 6 7 8", Look.pages(x));
        x.sweep();
        check.due("step(1)", 1, x.step(1));
        check.due("a page of one stays", "1 2 3 | 4 | 5 6 7 8", Look.pages(x));
        check.due("pageOf(4)", 1, x.pageOf(4));
        check.due("pageOf(5)", 2, x.pageOf(5));
    }

    private static void promise21SweepingStaysAtTheNumber() {
        PageBail x = Look.with(10, 20, 30, 40, 50, 60, 70);
        check.due("sweeping() with none", PageBail.NONE, x.sweeping());
        x.sweep();
        x.step(3);
        check.due("pages", "10 20 30 40 | 50 60 70", Look.pages(x));
        check.due("sweeping()", 1, x.sweeping());
        x.put(15, 1, 0);
        check.due("a split ahead of it", "10 15 20 | 30 40 | 50 60 70", Look.pages(x));
        check.due("sweeping() stays at the number", 1, x.sweeping());
        check.due("step(1) goes on at the page of that number", 1, x.step(1));
        check.due("pages", "10 15 20 | 30 40 50 | 60 70", Look.pages(x));
        Look.payBack(x, 10, 15, 20);
        check.due("a joining ahead of it", "30 40 50 | 60 70", Look.pages(x));
        check.due("sweeping() stays at the number", 1, x.sweeping());
        x.payBack(60);
        check.due("its page borrows", "30 40 | 50 70", Look.pages(x));
        check.due("sweeping() stays at the number", 1, x.sweeping());
    }

    private static void promise21SweepingIsOverWithoutItsPage() {
        PageBail x = atPage1();
        x.payBack(5);
        check.due("its page borrows", "1 2 3 | 4 6", Look.pages(x));
        x.payBack(6);
        check.due("its page borrows again", "1 2 | 3 4", Look.pages(x));
        check.due("sweeping()", 1, x.sweeping());
        x.payBack(4);
        check.due("its page joins the one ahead", "1 2 3", Look.pages(x));
        check.due("sweeping() behind a payBack", PageBail.NONE, x.sweeping());
        x.sweep();
        check.due("sweeping() of a new sweep", 0, x.sweeping());

        x = atPage1();
        check.due("amnesty(4, 0)", 3, x.amnesty(4, 0));
        check.due("pages", "4 5 6", Look.pages(x));
        check.due("sweeping() behind an amnesty", PageBail.NONE, x.sweeping());

        x = atPage1();
        x.forfeit(1);
        x.forfeit(2);
        x.forfeit(4);
        check.due("pass(15)", 3, x.pass(15));
        check.due("pages", "3 5 6", Look.pages(x));
        check.due("sweeping() behind a pass", PageBail.NONE, x.sweeping());

        x = new PageBail();
        x.sweep();
        x.amnesty(10000, 0);
        x.pass(1);
        check.due("sweeping() without pages, nothing taken", 0, x.sweeping());
        x.put(1, 1, 1);
        check.due("sweeping() at the new page", 0, x.sweeping());
        x.payBack(1);
        check.due("sweeping() when its only page is gone", PageBail.NONE, x.sweeping());
    }

    /** Pages "1 2 3 4 | 5 6", and a sweep at the page 1. */
    private static PageBail atPage1() {
        PageBail x = Look.with(1, 2, 3, 4, 5, 6);
        x.sweep();
        x.step(3);
        check.due("pages", "1 2 3 4 | 5 6", Look.pages(x));
        check.due("sweeping()", 1, x.sweeping());
        return x;
    }

    private static void walks(String when, PageBail x, int reader, int... due) {
        for (int number : due) {
            check.due("walk(" + reader + ") " + when, number, x.walk(reader));
        }
    }

    private static void promise22Walk() {
        PageBail x = new PageBail();
        walks("without records", x, 0, PageBail.NONE, PageBail.NONE);
        Look.put(x, 999, 30, 0, 20, 10);
        walks("over all, and again", x, 0, 0, 10, 20, 30, 999, PageBail.NONE, 0, 10);
        walks("by itself", x, 3, 0, 10);
        walks("by itself", x, 1, 0, 10, 20);
        walks("by itself", x, 2, 0);
        walks("on", x, 0, 20, 30);
        walks("on", x, 3, 20);
        walks("on", x, 1, 30, 999, PageBail.NONE, 0);
        check.due("walks change no record", "0 10 20 | 30 999", Look.pages(x));
    }

    private static void promise22WalkMeanwhile() {
        PageBail x = Look.with(10, 20, 30, 40, 50);
        walks("at first", x, 0, 10, 20);
        x.payBack(20);
        x.payBack(30);
        walks("on from a record that is gone", x, 0, 40);
        Look.put(x, 35, 45, 5);
        walks("on to one put behind, past those put ahead", x, 0, 45, 50);
        x.put(999, 1, 1);
        walks("on from what was the last one", x, 0, 999);
        x.amnesty(10000, 0);
        x.put(998, 1, 1);
        walks("on, with none above", x, 0, PageBail.NONE);
        walks("from ahead of all", x, 0, 998);

        PageBail y = Look.with(1, 2, 3, 4, 5, 6, 7);
        walks("at first", y, 2, 1, 2, 3);
        y.forfeit(4);
        y.sweep();
        y.step(100);
        walks("over a sweep, to a forfeited one", y, 2, 4);
        y.pass(15);
        walks("on from one that was kept", y, 2, 5);
        y.payBack(5);
        y.put(5, 1, 1);
        walks("past a case that was put again", y, 2, 6, 7, PageBail.NONE, 1);
    }

    private static void promise22WalkRefuses() {
        PageBail x = Look.with(10, 20, 30);
        walks("at first", x, 0, 10);
        walks("at first", x, 3, 10, 20);
        for (int reader : new int[] {-1, 4, Integer.MIN_VALUE, Integer.MAX_VALUE}) {
            check.illegalArgument("walk(" + reader + ")", x, () -> x.walk(reader));
        }
        walks("behind refused walks", x, 0, 20);
        walks("behind refused walks", x, 3, 30);
        walks("behind refused walks", x, 1, 10);
    }
}

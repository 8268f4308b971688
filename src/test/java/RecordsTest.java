/** Promises 1 to 14: a new object and the records. */
public final class RecordsTest {
    private static final int[] NO_CASES = {-1, 1000, Integer.MIN_VALUE, Integer.MAX_VALUE};

    private static final Check check = new Check("RecordsTest");

    public static void main(String[] args) {
        promise1NewObject();
        promise2Put();
        promise2PutRefuses();
        promise2PutRefusesMoreThan80();
        promise2PutSplits();
        promise3PayBack();
        promise3PayBackRefuses();
        promise3PayBackBorrowsAndJoins();
        promise3PayBackOnPagesOfOne();
        promise4Forfeit();
        promise5Undo();
        promise6Amnesty();
        promise6AmnestyRefuses();
        promise6AmnestyTakesByRisingCases();
        promises7To12Questions();
        promise13Pass();
        promise13PassRefuses();
        promise13PassTakesDayByDay();
        promise14Today();
        check.end();
    }

    private static void promise1NewObject() {
        PageBail x = new PageBail();
        check.due("a new object", "0 0 0 0 0 0 0 0 0 0 records 0, kept 0, paid back 0, today 0,"
                + " sweeping -1", Look.whole(x));
        check.due("pages()", 0, x.pages());
        for (int reader = 0; reader <= 3; reader++) {
            check.due("walk(" + reader + ")", PageBail.NONE, x.walk(reader));
        }
        check.due("sum(0)", 0, x.sum(0));
        check.due("isForfeited(999)", false, x.isForfeited(999));
        check.due("pageOf(999)", PageBail.NONE, x.pageOf(999));
        Look.with(1, 2, 3).pass(3);
        check.due("records() beside another object", 0, x.records());
        check.due("today() beside another object", 0, x.today());
    }

    private static void promise2Put() {
        PageBail x = new PageBail();
        check.due("put(20, 200, 2)", 1, x.put(20, 200, 2));
        check.due("put(0, 1, 0)", 1, x.put(0, 1, 0));
        check.due("put(999, 10000, 9)", 1, x.put(999, 10000, 9));
        check.due("put(21, 300, 2)", 1, x.put(21, 300, 2));
        check.due("put(22, 1, 2)", 2, x.put(22, 1, 2));
        check.due("pages", "0 20 | 21 22 999", Look.pages(x));
        check.due("sum(0)", 1, x.sum(0));
        check.due("sum(999)", 10000, x.sum(999));
        check.due("heldBy(2)", 501, x.heldBy(2));
        check.due("heldBy(9)", 10000, x.heldBy(9));
        check.due("records()", 5, x.records());
        check.due("isForfeited(20)", false, x.isForfeited(20));
        x.payBack(20);
        check.due("put(20, 7, 7) again", 2, x.put(20, 7, 7));
        check.due("sum(20)", 7, x.sum(20));
        check.due("heldBy(7)", 7, x.heldBy(7));
    }

    private static void promise2PutRefuses() {
        PageBail x = Look.with(5, 6, 7, 8);
        for (int number : NO_CASES) {
            check.illegalArgument("put(" + number + ", 1, 0)", x, () -> x.put(number, 1, 0));
        }
        for (int sum : new int[] {0, -1, 10001, Integer.MIN_VALUE, Integer.MAX_VALUE}) {
            check.illegalArgument("put(1, " + sum + ", 0)", x, () -> x.put(1, sum, 0));
        }
        for (int surety : new int[] {-1, 10, Integer.MIN_VALUE, Integer.MAX_VALUE}) {
            check.illegalArgument("put(1, 1, " + surety + ")", x, () -> x.put(1, 1, surety));
        }
        check.illegalState("put(5, 1, 0)", x, () -> x.put(5, 1, 0));
        PageBail y = Look.with(5, 6, 7, 8);
        check.illegalState("put(8, 9, 8) on a full page", y, () -> y.put(8, 9, 8));
        check.illegalArgument("put(5, 0, 0) of a case put", y, () -> y.put(5, 0, 0));
        check.illegalArgument("put(5, 1, 10) of a case put", y, () -> y.put(5, 1, 10));
        y.forfeit(5);
        check.illegalState("put(5, 1, 0) of a forfeited case", y, () -> y.put(5, 1, 0));
    }

    private static void promise2PutRefusesMoreThan80() {
        PageBail x = new PageBail();
        for (int i = 0; i < 79; i++) {
            x.put(i * 10, 1, 0);
        }
        check.due("pages(), two on each but for the last", 39, x.pages());
        check.due("put(791, 1, 0), the 80th", 39, x.put(791, 1, 0));
        check.due("records()", 80, x.records());
        int pages = x.pages();
        for (int number : new int[] {1, 795, 999, 0}) {
            check.due("put(" + number + ", 1, 0) of 81", IllegalStateException.class,
                    Check.thrownBy(() -> x.put(number, 1, 0)));
        }
        check.due("put(1000, 1, 0) of 81", IllegalArgumentException.class,
                Check.thrownBy(() -> x.put(1000, 1, 0)));
        check.due("records()", 80, x.records());
        check.due("pages()", pages, x.pages());
        check.due("heldBy(0)", 80, x.heldBy(0));
        x.payBack(400);
        check.due("pages(), two joined", pages - 1, x.pages());
        check.due("put(401, 1, 0) in the place that is free", pages - 1, x.put(401, 1, 0));
        check.due("records()", 80, x.records());
    }

    private static void promise2PutSplits() {
        check.due("split, to the page ahead", "10 20 25 | 30 40",
                Look.pages(Look.with(10, 20, 30, 40, 25)));
        check.due("split, to the new page", "10 20 | 30 35 40",
                Look.pages(Look.with(10, 20, 30, 40, 35)));
        check.due("split, behind all", "10 20 | 30 40 50",
                Look.pages(Look.with(10, 20, 30, 40, 50)));
        check.due("split, ahead of all", "5 10 20 | 30 40",
                Look.pages(Look.with(10, 20, 30, 40, 5)));
        check.due("split of a page in between", "10 20 | 30 40 45 | 50 60 | 70 80",
                Look.pages(Look.with(10, 20, 30, 40, 70, 80, 50, 60, 45)));
        PageBail x = Look.with(10, 20, 30, 40, 50, 60);
        check.due("a full last page", "10 20 | 30 40 50 60", Look.pages(x));
        check.due("put(25) goes to the page whose first case is lower", 2, x.put(25, 1, 0));
        check.due("pages", "10 20 25 | 30 40 50 60", Look.pages(x));
        check.due("put(27)", 2, x.put(27, 1, 0));
        check.due("put(28) splits the page ahead, not the full one behind", 3, x.put(28, 1, 0));
        check.due("pages", "10 20 | 25 27 28 | 30 40 50 60", Look.pages(x));
    }

    private static void promise3PayBack() {
        PageBail x = Look.with(0, 50, 999);
        check.due("payBack(50)", 51, x.payBack(50));
        check.due("paidBack()", 51, x.paidBack());
        check.due("kept()", 0, x.kept());
        check.due("sum(50)", 0, x.sum(50));
        check.due("pageOf(50)", PageBail.NONE, x.pageOf(50));
        check.due("pages", "0 999", Look.pages(x));
        check.due("payBack(999)", 1000, x.payBack(999));
        check.due("one record alone stays", "0", Look.pages(x));
        check.due("payBack(0)", 1, x.payBack(0));
        check.due("pages()", 0, x.pages());
        check.due("paidBack()", 1052, x.paidBack());
        check.due("put(3, 3, 3) without pages", 1, x.put(3, 3, 3));
    }

    private static void promise3PayBackRefuses() {
        PageBail x = Look.with(5, 6, 7);
        for (int number : NO_CASES) {
            check.illegalArgument("payBack(" + number + ")", x, () -> x.payBack(number));
        }
        for (int number : new int[] {0, 4, 8, 999}) {
            check.illegalState("payBack(" + number + ")", x, () -> x.payBack(number));
        }
        x.forfeit(6);
        check.illegalState("payBack(6), forfeited", x, () -> x.payBack(6));
        x.pass(14);
        check.illegalState("payBack(6) on the last day", x, () -> x.payBack(6));
        x.undo(6);
        check.due("payBack(6), undone", 7, x.payBack(6));
        check.illegalState("payBack(6) again", x, () -> x.payBack(6));
    }

    private static void promise3PayBackBorrowsAndJoins() {
        PageBail x = Look.with(1, 2, 3, 4, 5);
        check.due("pages", "1 2 | 3 4 5", Look.pages(x));
        x.payBack(2);
        check.due("borrows from the next page of 3", "1 3 | 4 5", Look.pages(x));
        x.payBack(3);
        check.due("joins the next page of 2", "1 4 5", Look.pages(x));

        x = Look.with(1, 2, 3, 4, 5, 6);
        x.payBack(1);
        check.due("borrows from the next page of 4", "2 3 | 4 5 6", Look.pages(x));

        x = Look.with(10, 20, 30, 40, 5);
        x.payBack(40);
        check.due("borrows from the page ahead of 3", "5 10 | 20 30", Look.pages(x));
        x.payBack(30);
        check.due("joins the page ahead, with none behind", "5 10 20", Look.pages(x));

        x = Look.with(10, 20, 30, 40, 5, 6);
        check.due("pages", "5 6 10 20 | 30 40", Look.pages(x));
        x.payBack(30);
        check.due("borrows from the page ahead of 4", "5 6 10 | 20 40", Look.pages(x));

        x = Look.with(10, 20, 30, 40, 50, 60, 70, 80, 15);
        check.due("pages", "10 15 20 | 30 40 | 50 60 70 80", Look.pages(x));
        x.payBack(30);
        check.due("borrows from the next page first", "10 15 20 | 40 50 | 60 70 80", Look.pages(x));

        x = Look.with(10, 20, 30, 40, 50, 60, 15);
        check.due("pages", "10 15 20 | 30 40 50 60", Look.pages(x));
        Look.put(x, 70, 61);
        Look.payBack(x, 61, 70);
        check.due("pages", "10 15 20 | 30 40 | 50 60", Look.pages(x));
        x.payBack(40);
        check.due("borrows from ahead, with 2 behind", "10 15 | 20 30 | 50 60", Look.pages(x));
        x.payBack(20);
        check.due("joins the next page of 2, not the one ahead", "10 15 | 30 50 60", Look.pages(x));
    }

    private static void promise3PayBackOnPagesOfOne() {
        PageBail x = Look.with(1, 2, 3, 4, 5);
        x.sweep();
        x.step(2);
        check.due("steps leave a page of one", "1 2 3 4 | 5", Look.pages(x));
        x.payBack(5);
        check.due("a page without records is gone, and borrows nothing", "1 2 3 4", Look.pages(x));

        x = Look.with(1, 2, 3, 4, 5);
        x.sweep();
        x.step(2);
        Look.payBack(x, 2, 3);
        check.due("a page of two beside one of one", "1 4 | 5", Look.pages(x));
        x.payBack(4);
        check.due("joins the next page of one", "1 5", Look.pages(x));

        x = twoPagesOfOne();
        x.payBack(4);
        check.due("the page behind the one that is gone neither borrows nor joins",
                "0 1 2 3 | 5", Look.pages(x));
        x = twoPagesOfOne();
        x.payBack(5);
        check.due("nor does the page ahead of it", "0 1 2 3 | 4", Look.pages(x));
        x = twoPagesOfOne();
        Look.payBack(x, 1, 2, 3);
        check.due("joins the next page of one, with another behind", "0 4 | 5", Look.pages(x));
    }

    /** A put splits the page at which a sweep is, so that the sweep takes from two pages behind. */
    private static PageBail twoPagesOfOne() {
        PageBail x = Look.with(1, 2, 3, 4, 5);
        x.sweep();
        x.step(2);
        x.put(0, 1, 0);
        x.step(1);
        check.due("two pages of one", "0 1 2 3 | 4 | 5", Look.pages(x));
        return x;
    }

    private static void promise4Forfeit() {
        PageBail x = Look.with(0, 13, 999);
        x.forfeit(0);
        x.forfeit(999);
        check.due("isForfeited(0)", true, x.isForfeited(0));
        check.due("isForfeited(999)", true, x.isForfeited(999));
        check.due("isForfeited(13)", false, x.isForfeited(13));
        check.due("the record stays", "0 13 999", Look.pages(x));
        check.due("sum(999)", 1000, x.sum(999));
        check.due("heldBy(9)", 1000, x.heldBy(9));
        check.due("kept()", 0, x.kept());
        for (int number : NO_CASES) {
            check.illegalArgument("forfeit(" + number + ")", x, () -> forfeit(x, number));
        }
        for (int number : new int[] {1, 12, 998}) {
            check.illegalState("forfeit(" + number + ")", x, () -> forfeit(x, number));
        }
        x.pass(3);
        check.illegalState("forfeit(0) again", x, () -> forfeit(x, 0));
        check.due("the day of the first forfeit stands", 3, x.undo(0));
        x.forfeit(0);
        x.pass(11);
        check.due("isForfeited(999) on the last day", true, x.isForfeited(999));
        check.due("999 goes a day later", 1, x.pass(1));
        check.due("isForfeited(999), gone", false, x.isForfeited(999));
        check.due("0 has a term of its own", 0, x.pass(2));
        check.due("undo(0)", 14, x.undo(0));
        x.put(999, 5, 5);
        check.due("a new record of the case is not forfeited", false, x.isForfeited(999));
    }

    private static Object forfeit(PageBail x, int number) {
        x.forfeit(number);
        return null;
    }

    private static void promise5Undo() {
        PageBail x = Look.with(0, 13, 999);
        x.pass(5);
        x.forfeit(0);
        check.due("undo(0) on the same day", 0, x.undo(0));
        check.due("isForfeited(0)", false, x.isForfeited(0));
        check.illegalState("undo(0) again", x, () -> x.undo(0));
        x.forfeit(999);
        x.pass(1);
        check.due("undo(999) a day later", 1, x.undo(999));
        x.forfeit(999);
        x.forfeit(13);
        x.pass(14);
        check.due("undo(999) on the last day", 14, x.undo(999));
        check.due("13 is kept, 999 is not", 1, x.pass(1));
        check.due("pages", "0 999", Look.pages(x));
        check.illegalState("undo(13) a day too late", x, () -> x.undo(13));
        check.illegalState("undo(1)", x, () -> x.undo(1));
        for (int number : NO_CASES) {
            check.illegalArgument("undo(" + number + ")", x, () -> x.undo(number));
        }
        x.pass(100);
        check.due("an undone record stays", 2, x.records());
        check.due("kept()", 14, x.kept());
        check.due("payBack(999), undone", 1000, x.payBack(999));
    }

    private static void promise6Amnesty() {
        PageBail x = new PageBail();
        x.put(1, 100, 1);
        x.put(2, 101, 1);
        x.put(3, 1, 1);
        x.forfeit(3);
        x.pass(1);
        x.put(4, 99, 2);
        check.due("amnesty(99, 0)", 0, x.amnesty(99, 0));
        check.due("amnesty(100, 0)", 1, x.amnesty(100, 0));
        check.due("pages", "2 3 4", Look.pages(x));
        check.due("paidBack()", 100, x.paidBack());
        check.due("amnesty(98, 1)", 0, x.amnesty(98, 1));
        check.due("amnesty(10000, 1)", 2, x.amnesty(10000, 1));
        check.due("a forfeited record stays", "3", Look.pages(x));
        check.due("paidBack()", 300, x.paidBack());
        check.due("heldBy(1)", 1, x.heldBy(1));
        x.undo(3);
        check.due("amnesty(1, 0)", 1, x.amnesty(1, 0));
        check.due("pages()", 0, x.pages());
        check.due("amnesty(1, 0) without records", 0, x.amnesty(1, 0));
        check.due("kept()", 0, x.kept());
    }

    private static void promise6AmnestyRefuses() {
        PageBail x = Look.with(1, 2, 3);
        x.pass(2);
        for (int sum : new int[] {0, -1, 10001, Integer.MIN_VALUE, Integer.MAX_VALUE}) {
            check.illegalArgument("amnesty(" + sum + ", 0)", x, () -> x.amnesty(sum, 0));
        }
        for (int day : new int[] {-1, 3, Integer.MIN_VALUE, Integer.MAX_VALUE}) {
            check.illegalArgument("amnesty(10000, " + day + ")", x, () -> x.amnesty(10000, day));
        }
        check.due("amnesty(10000, 2)", 3, x.amnesty(10000, 2));
    }

    /** Pages "1 2 | 3 4 | 5 6 7": to take 1 and then 4 leaves others than to take 4 and then 1. */
    private static PageBail whereTheOrderCounts() {
        PageBail x = new PageBail();
        x.put(1, 1, 1);
        Look.put(x, 2, 3);
        x.put(4, 1, 4);
        Look.put(x, 5, 6, 7);
        check.due("pages", "1 2 | 3 4 | 5 6 7", Look.pages(x));
        return x;
    }

    private static void promise6AmnestyTakesByRisingCases() {
        PageBail x = whereTheOrderCounts();
        Look.payBack(x, 1, 4);
        check.due("1 taken, then 4", "2 3 | 5 6 7", Look.pages(x));
        x = whereTheOrderCounts();
        Look.payBack(x, 4, 1);
        check.due("4 taken, then 1", "2 3 5 | 6 7", Look.pages(x));
        x = whereTheOrderCounts();
        check.due("amnesty(1, 0)", 2, x.amnesty(1, 0));
        check.due("amnesty takes 1, then 4", "2 3 | 5 6 7", Look.pages(x));
    }

    private static void promises7To12Questions() {
        PageBail x = Look.with(0, 10, 20, 30, 40, 999);
        x.forfeit(20);
        check.due("records()", 6, x.records());
        check.due("sum(0)", 1, x.sum(0));
        check.due("sum(999)", 1000, x.sum(999));
        check.due("sum(998)", 0, x.sum(998));
        check.due("isForfeited(20)", true, x.isForfeited(20));
        check.due("isForfeited(10)", false, x.isForfeited(10));
        check.due("isForfeited(21)", false, x.isForfeited(21));
        check.due("heldBy(0), a forfeited one too", 105, x.heldBy(0));
        check.due("heldBy(9)", 1000, x.heldBy(9));
        check.due("heldBy(1)", 0, x.heldBy(1));
        for (int number : NO_CASES) {
            check.illegalArgument("sum(" + number + ")", x, () -> x.sum(number));
            check.illegalArgument("isForfeited(" + number + ")", x, () -> x.isForfeited(number));
        }
        for (int surety : new int[] {-1, 10, Integer.MIN_VALUE, Integer.MAX_VALUE}) {
            check.illegalArgument("heldBy(" + surety + ")", x, () -> x.heldBy(surety));
        }
        PageBail y = Look.with(0, 10, 20, 30);
        y.forfeit(20);
        y.forfeit(30);
        y.payBack(10);
        check.due("paidBack()", 11, y.paidBack());
        check.due("kept()", 0, y.kept());
        y.pass(15);
        check.due("paidBack()", 11, y.paidBack());
        check.due("kept()", 52, y.kept());
        check.due("records()", 1, y.records());
        check.due("heldBy(0)", 1, y.heldBy(0));
        y.amnesty(1, 0);
        check.due("paidBack()", 12, y.paidBack());
        check.due("records()", 0, y.records());
    }

    private static void promise13Pass() {
        PageBail x = Look.with(1, 2, 3, 4, 5);
        x.pass(1);
        x.forfeit(2);
        x.pass(4);
        x.forfeit(5);
        x.forfeit(1);
        check.due("pass(10) to the last day of 2", 0, x.pass(10));
        check.due("pass(1)", 1, x.pass(1));
        check.due("kept()", 3, x.kept());
        check.due("pages, borrowed", "1 3 | 4 5", Look.pages(x));
        x.sweep();
        x.step(2);
        check.due("pages", "1 3 4 5", Look.pages(x));
        check.due("pass(3)", 0, x.pass(3));
        check.due("pass(100)", 2, x.pass(100));
        check.due("kept()", 11, x.kept());
        check.due("paidBack()", 0, x.paidBack());
        check.due("pages", "3 4", Look.pages(x));
        check.due("sweeping()", 0, x.sweeping());
        x.forfeit(3);
        x.forfeit(4);
        check.due("pass(15)", 2, x.pass(15));
        check.due("a sweep is over without its page", PageBail.NONE, x.sweeping());
        check.due("pass(1) without records", 0, x.pass(1));
    }

    private static void promise13PassRefuses() {
        PageBail x = Look.with(1, 2, 3);
        for (int days : new int[] {0, -1, 101, Integer.MIN_VALUE, Integer.MAX_VALUE}) {
            check.illegalArgument("pass(" + days + ")", x, () -> x.pass(days));
        }
        for (int i = 0; i < 49; i++) {
            x.pass(100);
        }
        x.pass(86);
        x.forfeit(2);
        check.illegalState("pass(15) to the day 5001", x, () -> x.pass(15));
        check.illegalState("pass(100)", x, () -> x.pass(100));
        check.illegalArgument("pass(101)", x, () -> x.pass(101));
        check.due("pass(14) to the day 5000", 0, x.pass(14));
        check.due("today()", 5000, x.today());
        check.illegalState("pass(1) on the last day", x, () -> x.pass(1));
        check.illegalArgument("pass(0) on the last day", x, () -> x.pass(0));
        check.due("undo(2)", 14, x.undo(2));
        check.due("amnesty(10000, 5000)", 3, x.amnesty(10000, 5000));
    }

    private static void promise13PassTakesDayByDay() {
        PageBail x = whereTheOrderCounts();
        x.forfeit(4);
        x.forfeit(1);
        check.due("pass(15)", 2, x.pass(15));
        check.due("on one day by rising cases", "2 3 | 5 6 7", Look.pages(x));
        x = whereTheOrderCounts();
        x.forfeit(4);
        x.pass(1);
        x.forfeit(1);
        check.due("pass(15)", 2, x.pass(15));
        check.due("on two days the earlier first", "2 3 5 | 6 7", Look.pages(x));
    }

    private static void promise14Today() {
        PageBail x = Look.with(1);
        check.due("today()", 0, x.today());
        x.pass(1);
        check.due("today()", 1, x.today());
        x.pass(100);
        check.due("today()", 101, x.today());
        Check.thrownBy(() -> x.pass(101));
        check.due("today() after a refused pass", 101, x.today());
    }
}

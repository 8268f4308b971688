/** "Terms", its part "Sweep". */
public final class TermsSweepTest {
    private static final Check check = new Check("TermsSweepTest");

    public static void main(String[] args) {
        check.run(
                TermsSweepTest::theFirstPageAtTheBeginning,
                TermsSweepTest::alsoWithoutPages,
                TermsSweepTest::noPageBehindIt,
                TermsSweepTest::fourRecordsGoesOn,
                TermsSweepTest::otherwiseTheFirstOfTheNextPage,
                TermsSweepTest::theNextPageWithoutRecordsIsGone,
                TermsSweepTest::noPageBorrowsByAStep,
                TermsSweepTest::noPageIsJoinedByAStep,
                TermsSweepTest::recordsArePutAndTakenMeanwhile,
                TermsSweepTest::staysAtTheNumberWhenPut,
                TermsSweepTest::staysAtTheNumberWhenTaken,
                TermsSweepTest::overWhenNoPageHasTheNumber,
                TermsSweepTest::overHoweverTheRecordWasTaken,
                TermsSweepTest::overWhenNoPageIsLeft,
                TermsSweepTest::overOnlyWhenARecordWasTaken);
    }

    private static void holds(String words) {
        check.holds("Terms, Sweep", words);
    }

    /** Pages "1 2 3 4 | 5 6", and a sweep at the page 1. */
    private static PageBail atTheLastPage() {
        PageBail x = Look.swept("1 2 | 3 4 5 6", 3, "1 2 3 4 | 5 6");
        check.due("sweeping(), as laid", 1, x.sweeping());
        return x;
    }

    private static void theFirstPageAtTheBeginning() {
        holds("it has a page at which it is, the first one at the beginning");
        PageBail x = Look.laid("1 2 3 4 | 5 6");
        x.sweep();
        check.due("sweeping()", 0, x.sweeping());
        x.step(2);
        check.due("sweeping(), over", PageBail.NONE, x.sweeping());
        x.sweep();
        check.due("sweeping(), the next one begins at the first page too", 0, x.sweeping());
    }

    private static void alsoWithoutPages() {
        holds("0, also without pages");
        PageBail x = new PageBail();
        x.sweep();
        check.due("sweeping()", 0, x.sweeping());
        Look.put(x, 1, 2, 3, 4, 5);
        check.due("sweeping(), pages put", 0, x.sweeping());
        check.due("step(1)", 1, x.step(1));
        check.pages("the first page is swept", "1 2 3 | 4 5", x);
    }

    private static void noPageBehindIt() {
        holds("A step of it: if there is no page behind it, the sweep is over");
        PageBail none = new PageBail();
        none.sweep();
        check.due("step(1) without pages", 0, none.step(1));
        check.due("sweeping() without pages", PageBail.NONE, none.sweeping());
        for (String laid : new String[] {"1", "1 2", "1 2 3 4"}) {
            PageBail x = Look.laid(laid);
            x.sweep();
            check.due("step(1) of one page, " + laid, 0, x.step(1));
            check.due("sweeping(), one page", PageBail.NONE, x.sweeping());
            check.pages("one page", laid, x);
        }
        PageBail last = atTheLastPage();
        check.due("step(1) at the last page", 0, last.step(1));
        check.due("sweeping(), at the last page", PageBail.NONE, last.sweeping());
        check.pages("the last page", "1 2 3 4 | 5 6", last);
        PageBail ahead = Look.laid("1 2 3 4 | 5 6");
        ahead.sweep();
        ahead.step(1);
        check.due("sweeping(), one page was behind it", 1, ahead.sweeping());
    }

    private static void fourRecordsGoesOn() {
        holds("if its page has 4 records, it goes on to the next page");
        PageBail x = Look.laid("1 2 3 4 | 5 6 7 8 | 10 20");
        x.sweep();
        check.due("step(1)", 0, x.step(1));
        check.due("sweeping()", 1, x.sweeping());
        check.due("step(1)", 0, x.step(1));
        check.due("sweeping()", 2, x.sweeping());
        check.pages("none moved", "1 2 3 4 | 5 6 7 8 | 10 20", x);
        PageBail y = Look.laid("1 2 3 | 5 6 7");
        y.sweep();
        check.due("step(1), its page has 3", 1, y.step(1));
        check.due("sweeping(), its page had 3", 0, y.sweeping());
    }

    private static void otherwiseTheFirstOfTheNextPage() {
        holds("otherwise the first record of the next page goes to its page");
        PageBail x = Look.laid("1 2 | 3 4 5 6 | 7 8");
        x.sweep();
        check.due("step(1)", 1, x.step(1));
        check.pages("the first one went", "1 2 3 | 4 5 6 | 7 8", x);
        check.due("step(1)", 1, x.step(1));
        check.pages("the next one went", "1 2 3 4 | 5 6 | 7 8", x);
        check.due("sweeping()", 0, x.sweeping());
        PageBail y = Look.swept("2 3 | 4 5 6 | 7 8 9", 2, "2 3 4 5 | 6 | 7 8 9");
        y.step(1);
        check.due("step(1), its page has 1", 1, y.step(1));
        check.pages("to a page of 1", "2 3 4 5 | 6 7 | 8 9", y);
    }

    private static void theNextPageWithoutRecordsIsGone() {
        holds("and if the next page has no records then, that is gone");
        PageBail x = Look.laid("1 2 | 3 4 | 5 6");
        x.sweep();
        x.step(1);
        check.pages("the next page has 1 then", "1 2 3 | 4 | 5 6", x);
        x.step(1);
        check.pages("the next page has none then", "1 2 3 4 | 5 6", x);
        PageBail y = Look.laid("1 2 | 3 4");
        y.sweep();
        check.due("step(2)", 2, y.step(2));
        check.pages("the last page has none then", "1 2 3 4", y);
        check.due("sweeping(), no step was at its end", 0, y.sweeping());
        check.due("step(1)", 0, y.step(1));
        check.due("sweeping()", PageBail.NONE, y.sweeping());
    }

    private static void noPageBorrowsByAStep() {
        holds("no page borrows or is joined by a step");
        PageBail x = Look.laid("1 2 | 3 4 | 5 6 7 8");
        x.sweep();
        x.step(1);
        check.pages("the next page of 1 does not borrow", "1 2 3 | 4 | 5 6 7 8", x);
    }

    private static void noPageIsJoinedByAStep() {
        holds("no page borrows or is joined by a step");
        PageBail x = Look.laid("1 2 | 3 4 | 5 6");
        x.sweep();
        x.step(1);
        check.pages("the next page of 1 is not joined", "1 2 3 | 4 | 5 6", x);
        PageBail y = Look.laid("1 2 3 | 4 5");
        y.sweep();
        y.step(1);
        check.pages("nor is the last page of 1", "1 2 3 4 | 5", y);
    }

    private static void recordsArePutAndTakenMeanwhile() {
        holds("Records can be put and taken meanwhile");
        PageBail x = Look.laid("1 2 3 4 | 50 60 | 70 80");
        x.sweep();
        x.step(1);
        Look.put(x, 55, 56);
        x.payBack(80);
        check.pages("put and taken at the page of the sweep", "1 2 3 4 | 50 55 56 | 60 70", x);
        check.due("sweeping()", 1, x.sweeping());
        check.due("step(3), one moved, one went on, over", 1, x.step(3));
        check.pages("packed as it is then", "1 2 3 4 | 50 55 56 60 | 70", x);
    }

    private static void staysAtTheNumberWhenPut() {
        holds("the sweep stays at the number of its page, whichever page that is then");
        PageBail x = atTheLastPage();
        Look.put(x, 0);
        check.pages("a split ahead", "0 1 2 | 3 4 | 5 6", x);
        check.due("sweeping() behind a split ahead", 1, x.sweeping());
        check.due("step(1)", 1, x.step(1));
        check.pages("the page of that number is swept", "0 1 2 | 3 4 5 | 6", x);
        PageBail y = Look.laid("1 2 3 4 | 5 6 7 8");
        y.sweep();
        y.step(1);
        Look.put(y, 9);
        check.due("sweeping() when its own page is split", 1, y.sweeping());
        check.due("step(1)", 1, y.step(1));
        check.pages("the part ahead is swept", "1 2 3 4 | 5 6 7 | 8 9", y);
        PageBail z = Look.laid("5 6 7 8");
        z.sweep();
        Look.put(z, 1);
        check.due("sweeping() when the page 0 is split", 0, z.sweeping());
    }

    private static void staysAtTheNumberWhenTaken() {
        holds("the sweep stays at the number of its page, whichever page that is then");
        PageBail x = Look.laid("1 2 3 4 | 5 6 | 7 8");
        x.sweep();
        x.step(1);
        Look.payBack(x, 1, 2, 3);
        check.pages("the page ahead joins its page", "4 5 6 | 7 8", x);
        check.due("sweeping() at the page of that number", 1, x.sweeping());
        check.due("step(1), it is the last page now", 0, x.step(1));
        check.due("sweeping()", PageBail.NONE, x.sweeping());
        PageBail y = Look.laid("1 2 3 4 | 5 6 | 7 8");
        y.sweep();
        y.step(1);
        Look.payBack(y, 3, 4, 5);
        check.pages("its page joins the next one", "1 2 | 6 7 8", y);
        check.due("sweeping() at the page that it joined", 1, y.sweeping());
    }

    private static void holdsOver() {
        holds("when a record was taken, and there is no page with this number any more, the sweep is"
                + " over");
    }

    private static void overWhenNoPageHasTheNumber() {
        holdsOver();
        PageBail x = atTheLastPage();
        Look.payBack(x, 5, 6);
        check.pages("its page borrows", "1 2 | 3 4", x);
        check.due("sweeping(), there is such a page", 1, x.sweeping());
        x.payBack(4);
        check.pages("its page joins the one ahead", "1 2 3", x);
        check.due("sweeping(), there is none", PageBail.NONE, x.sweeping());
        Look.put(x, 4, 5);
        check.pages("there is such a page again", "1 2 | 3 4 5", x);
        check.due("sweeping() stays over", PageBail.NONE, x.sweeping());
        check.throwsOnly("step(1) of none", IllegalStateException.class, () -> x.step(1));
        x.sweep();
        check.due("sweeping() of a new one", 0, x.sweeping());
        PageBail y = Look.swept("1 2 3 4 | 5 6 7 8 | 10 20", 2, "1 2 3 4 | 5 6 7 8 | 10 20");
        Look.payBack(y, 1, 2, 5, 6);
        check.due("sweeping() at the last of three", 2, y.sweeping());
        y.payBack(3);
        check.pages("two pages ahead of it joined", "4 7 8 | 10 20", y);
        check.due("sweeping(), although its page is there yet", PageBail.NONE, y.sweeping());
    }

    private static void overHoweverTheRecordWasTaken() {
        holdsOver();
        PageBail x = atTheLastPage();
        check.due("amnesty(3, 0)", 2, x.amnesty(3, 0));
        check.due("sweeping() behind an amnesty that leaves it", 1, x.sweeping());
        check.due("amnesty(4, 0)", 1, x.amnesty(4, 0));
        check.pages("behind amnesties", "4 5 6", x);
        check.due("sweeping() behind amnesties", PageBail.NONE, x.sweeping());
        PageBail y = atTheLastPage();
        Look.forfeit(y, 1, 2, 4);
        check.due("pass(14)", 0, y.pass(14));
        check.due("sweeping() on the last day", 1, y.sweeping());
        check.due("pass(1)", 3, y.pass(1));
        check.pages("behind a day", "3 5 6", y);
        check.due("sweeping() behind a day", PageBail.NONE, y.sweeping());
    }

    private static void overWhenNoPageIsLeft() {
        holdsOver();
        PageBail x = Look.laid("1 2");
        x.sweep();
        x.payBack(1);
        check.due("sweeping(), one record left", 0, x.sweeping());
        x.payBack(2);
        check.due("sweeping(), none left", PageBail.NONE, x.sweeping());
        PageBail y = Look.laid("1 2 | 3 4 5");
        y.sweep();
        y.amnesty(10000, 0);
        check.due("sweeping(), none left by an amnesty", PageBail.NONE, y.sweeping());
        PageBail z = Look.laid("1 2");
        z.sweep();
        Look.forfeit(z, 1, 2);
        z.pass(15);
        check.due("sweeping(), none left by a day", PageBail.NONE, z.sweeping());
    }

    private static void overOnlyWhenARecordWasTaken() {
        holdsOver();
        PageBail x = new PageBail();
        x.sweep();
        check.due("amnesty(10000, 0), no record taken", 0, x.amnesty(10000, 0));
        check.due("pass(100), no record taken", 0, x.pass(100));
        Check.thrownBy(() -> x.payBack(1));
        check.due("sweeping() without pages", 0, x.sweeping());
        Look.put(x, 1);
        check.due("sweeping(), one put", 0, x.sweeping());
        x.payBack(1);
        check.due("sweeping(), it was taken", PageBail.NONE, x.sweeping());
    }
}

/** "Terms", its part "Records and pages". */
public final class TermsRecordsAndPagesTest {
    private static final Check check = new Check("TermsRecordsAndPagesTest");

    public static void main(String[] args) {
        check.run(
                TermsRecordsAndPagesTest::aCaseIs0To999,
                TermsRecordsAndPagesTest::atMostOneRecordForACase,
                TermsRecordsAndPagesTest::aRecordHasTheDayOnWhichItWasPut,
                TermsRecordsAndPagesTest::pagesAreCountedFrom0,
                TermsRecordsAndPagesTest::lowerCasesAheadOfTheNextPage,
                TermsRecordsAndPagesTest::onAPageByRisingCasesFrom0,
                TermsRecordsAndPagesTest::aPageHasAtMost4,
                TermsRecordsAndPagesTest::aPageHasAtLeast1,
                TermsRecordsAndPagesTest::withoutRecordsNoPages,
                TermsRecordsAndPagesTest::putOnTheLastPageWhoseFirstIsLower,
                TermsRecordsAndPagesTest::putOnTheFirstPageIfNoneIsLower,
                TermsRecordsAndPagesTest::withoutPagesANewOne,
                TermsRecordsAndPagesTest::splitIfThatPageHas4,
                TermsRecordsAndPagesTest::lastTwoGoToANewPageBehind,
                TermsRecordsAndPagesTest::afterASplitThePageIsLookedForAnew,
                TermsRecordsAndPagesTest::pageHas1AndThereAreOthers,
                TermsRecordsAndPagesTest::howeverItIsTaken,
                TermsRecordsAndPagesTest::borrowsFromTheNextPageOf3Or4,
                TermsRecordsAndPagesTest::otherwiseFromThePageAheadOf3Or4,
                TermsRecordsAndPagesTest::otherwiseGoesToTheNextPage,
                TermsRecordsAndPagesTest::withoutNextPageGoesToThePageAhead,
                TermsRecordsAndPagesTest::aPageWithoutRecordsIsGone,
                TermsRecordsAndPagesTest::asManyPagesAsThereCanBe);
    }

    private static void holds(String words) {
        check.holds("Terms, Records and pages", words);
    }

    private static void aCaseIs0To999() {
        holds("A record has a case, 0 to 999");
        check.pages("the least and the greatest case", "0 999", Look.with(999, 0));
        for (int number : Look.outside(0, 999)) {
            check.illegalArgument("put(" + number + ", 1, 1)", PageBail::new,
                    x -> x.put(number, 1, 1));
        }
    }

    private static void atMostOneRecordForACase() {
        holds("at most one for each");
        check.illegalState("put(7, 1, 1) twice", () -> Look.with(7), x -> x.put(7, 1, 1));
        check.illegalState("put(999, 1, 1) twice", () -> Look.with(999), x -> x.put(999, 1, 1));
        PageBail x = Look.with(7, 8);
        x.payBack(7);
        check.due("put(7, 5, 5) when the other is gone", 1, x.put(7, 5, 5));
        check.due("sum(7)", 5, x.sum(7));
        check.pages("one for each", "7 8", x);
    }

    private static void aRecordHasTheDayOnWhichItWasPut() {
        holds("a sum, a surety, 0 to 9, and the day on which it was put");
        PageBail x = Look.with(1);
        x.pass(1);
        Look.put(x, 2);
        x.pass(1);
        check.due("amnesty(10000, 0)", 1, x.amnesty(10000, 0));
        check.pages("what was put on the day 1 stays", "2", x);
        x.payBack(2);
        Look.put(x, 2);
        check.due("amnesty(10000, 1) of a case put again on the day 2", 0, x.amnesty(10000, 1));
        check.due("amnesty(10000, 2)", 1, x.amnesty(10000, 2));
    }

    private static void pagesAreCountedFrom0() {
        holds("pages stand in a row and are counted from 0");
        PageBail x = Look.laid("1 2 | 3 4 5");
        check.due("pageOf(1)", 0, x.pageOf(1));
        check.due("pageOf(5)", 1, x.pageOf(5));
        check.due("size(0)", 2, x.size(0));
        check.due("size(1)", 3, x.size(1));
    }

    private static void lowerCasesAheadOfTheNextPage() {
        holds("all records of a page have lower cases than those of the next page");
        check.pages("put by falling cases", "0 1 2 | 3 4 | 5 6 | 7 8",
                Look.with(8, 7, 6, 5, 4, 3, 2, 1, 0));
        check.pages("put in between", "0 1 | 2 3 4 5 | 6 7 8",
                Look.with(0, 8, 2, 6, 4, 1, 7, 3, 5));
    }

    private static void onAPageByRisingCasesFrom0() {
        holds("on a page they stand by rising cases, in places from 0 on");
        PageBail x = Look.with(30, 10, 40, 20);
        for (int place = 0; place < 4; place++) {
            check.due("at(0, " + place + ")", 10 * (place + 1), x.at(0, place));
        }
    }

    private static void aPageHasAtMost4() {
        holds("A page has at most 4 records");
        PageBail x = Look.with(1, 2, 3);
        x.put(4, 1, 1);
        check.due("the sizes, four put", "4", Look.sizes(x));
        x.put(5, 1, 1);
        check.due("the sizes, five put", "2 3", Look.sizes(x));
        PageBail y = Look.laid("1 2 | 3 4 | 5 6 | 7 8 9");
        y.sweep();
        y.step(100);
        check.due("the sizes behind a sweep", "4 4 1", Look.sizes(y));
    }

    private static void aPageHasAtLeast1() {
        holds("and at least 1");
        check.due("the sizes, one put", "1", Look.sizes(Look.with(5)));
        PageBail x = Look.laid("1 2 3 | 4 5");
        x.sweep();
        x.step(1);
        check.due("the sizes, one of two moved", "4 1", Look.sizes(x));
        x.payBack(5);
        check.due("the sizes, the last of a page taken", "4", Look.sizes(x));
    }

    private static void withoutRecordsNoPages() {
        holds("without records there are no pages");
        check.due("pages() at first", 0, new PageBail().pages());
        PageBail x = Look.with(5);
        x.payBack(5);
        check.due("pages(), the last one paid back", 0, x.pages());
        Look.put(x, 1, 2, 3, 4, 5);
        x.amnesty(10000, 0);
        check.due("pages(), all under an amnesty", 0, x.pages());
        Look.put(x, 1, 2, 3, 4, 5);
        Look.forfeit(x, 1, 2, 3, 4, 5);
        x.pass(15);
        check.due("pages(), all kept", 0, x.pages());
    }

    private static void putOnTheLastPageWhoseFirstIsLower() {
        holds("To put a record is to put it on the last page whose first case is lower");
        PageBail x = Look.laid("10 20 | 30 40 | 50 60");
        Look.put(x, 49);
        check.pages("49, just below the first of the next", "10 20 | 30 40 49 | 50 60", x);
        Look.put(x, 51);
        check.pages("51, just above the first", "10 20 | 30 40 49 | 50 51 60", x);
        Look.put(x, 29);
        check.pages("29, although both pages have room", "10 20 29 | 30 40 49 | 50 51 60", x);
        Look.put(x, 999);
        check.pages("999, above all", "10 20 29 | 30 40 49 | 50 51 60 999", x);
    }

    private static void putOnTheFirstPageIfNoneIsLower() {
        holds("or on the first page, if there is none such");
        PageBail x = Look.laid("10 20 | 30 40 50");
        Look.put(x, 9);
        check.pages("9, just below the first", "9 10 20 | 30 40 50", x);
        Look.put(x, 0);
        check.pages("0, below all", "0 9 10 20 | 30 40 50", x);
        Look.put(x, 1);
        check.pages("1, above 0 alone", "0 1 9 | 10 20 | 30 40 50", x);
    }

    private static void withoutPagesANewOne() {
        holds("without pages a new one is made");
        PageBail x = new PageBail();
        check.due("put(0, 1, 1)", 1, x.put(0, 1, 1));
        check.pages("a new one", "0", x);
        x.payBack(0);
        check.due("put(999, 1, 1) when it is gone", 1, x.put(999, 1, 1));
        check.pages("a new one again", "999", x);
    }

    private static void splitIfThatPageHas4() {
        holds("If that page has 4 records, it is split ahead of that");
        PageBail x = Look.laid("10 20 30 | 50 60 70 80");
        Look.put(x, 40);
        check.pages("that page has 3", "10 20 30 40 | 50 60 70 80", x);
        Look.put(x, 45);
        check.pages("that page has 4, the next one too", "10 20 | 30 40 45 | 50 60 70 80", x);
        Look.put(x, 15);
        check.pages("that page has 2, another one 4", "10 15 20 | 30 40 45 | 50 60 70 80", x);
        PageBail y = Look.laid("10 20 30 40 | 50 60");
        Look.put(y, 45);
        check.pages("nothing goes to the next page of 2", "10 20 | 30 40 45 | 50 60", y);
    }

    private static void lastTwoGoToANewPageBehind() {
        holds("its last two records go to a new page behind it");
        check.pages("the only page", "5 10 20 | 30 40", Look.with(10, 20, 30, 40, 5));
        PageBail x = Look.laid("10 20 | 30 40 50 60 | 70 80");
        Look.put(x, 35);
        check.pages("a page in between", "10 20 | 30 35 40 | 50 60 | 70 80", x);
        PageBail y = Look.laid("10 20 | 30 40 50 60");
        Look.put(y, 70);
        check.pages("the last page", "10 20 | 30 40 | 50 60 70", y);
    }

    private static void afterASplitThePageIsLookedForAnew() {
        holds("then the page for the record is looked for anew");
        String[] due = {"0 10 20 | 30 40", "10 15 20 | 30 40", "10 20 29 | 30 40",
            "10 20 | 30 31 40", "10 20 | 30 40 41"};
        int[] cases = {0, 15, 29, 31, 41};
        for (int i = 0; i < cases.length; i++) {
            PageBail x = Look.laid("10 20 30 40");
            check.due("put(" + cases[i] + ", 1, 1)", 2, x.put(cases[i], 1, 1));
            check.pages(cases[i] + " put", due[i], x);
        }
    }

    private static void pageHas1AndThereAreOthers() {
        holds("When a record is taken from a page, and that page has 1 record then, and there are"
                + " other pages");
        PageBail x = Look.laid("1 2 3 | 4 5 6 7");
        x.payBack(1);
        check.pages("it has 2 then", "2 3 | 4 5 6 7", x);
        x.payBack(3);
        check.pages("it has 1 then", "2 4 | 5 6 7", x);
        PageBail y = Look.laid("1 2");
        y.payBack(1);
        check.pages("it has 1 then, and there are no others", "2", y);
        PageBail z = Look.swept("1 2 3 | 4 5", 1, "1 2 3 4 | 5");
        z.payBack(5);
        check.pages("it has none then", "1 2 3 4", z);
        PageBail w = Look.swept("1 2 3 | 4 5 | 6 7 8", 1, "1 2 3 4 | 5 | 6 7 8");
        w.payBack(1);
        check.pages("another one has 1", "2 3 4 | 5 | 6 7 8", w);
    }

    private static void howeverItIsTaken() {
        holds("When a record is taken from a page");
        PageBail x = Look.laid("1 2 | 3 4 5");
        x.amnesty(2, 0);
        check.pages("by an amnesty", "2 3 | 4 5", x);
        PageBail y = Look.laid("1 2 | 3 4 5");
        Look.forfeit(y, 1);
        y.pass(15);
        check.pages("when it is kept", "2 3 | 4 5", y);
    }

    private static void borrowsFromTheNextPageOf3Or4() {
        holds("it borrows from the next page, if that has 3 or 4 records, the first record of that");
        String[] laid = {"1 2 | 3 4 5", "1 2 | 3 4 5 6", "1 2 | 3 4", "0 1 2 | 3 4 | 5 6 7",
            "0 1 2 | 3 4 | 5 6 7 8"};
        int[] taken = {2, 1, 2, 3, 4};
        String[] due = {"1 3 | 4 5", "2 3 | 4 5 6", "1 3 4", "0 1 2 | 4 5 | 6 7",
            "0 1 2 | 3 5 | 6 7 8"};
        takenFrom(laid, taken, due);
    }

    private static void takenFrom(String[] laid, int[] taken, String[] due) {
        for (int i = 0; i < laid.length; i++) {
            PageBail x = Look.laid(laid[i]);
            x.payBack(taken[i]);
            check.pages(taken[i] + " taken from " + laid[i], due[i], x);
        }
    }

    private static void otherwiseFromThePageAheadOf3Or4() {
        holds("otherwise from the page ahead, if that has 3 or 4 records, the last record of that");
        String[] laid = {"1 2 3 | 4 5", "1 2 3 4 | 5 6", "1 2 | 3 4", "1 2 3 | 4 5 | 6 7",
            "1 2 3 4 | 5 6 | 7 8"};
        int[] taken = {5, 5, 4, 4, 6};
        String[] due = {"1 2 | 3 4", "1 2 3 | 4 6", "1 2 3", "1 2 | 3 5 | 6 7",
            "1 2 3 | 4 5 | 7 8"};
        takenFrom(laid, taken, due);
        PageBail x = Look.swept("2 3 | 4 5 6", 2, "2 3 4 5 | 6");
        Look.put(x, 1);
        x.payBack(4);
        check.pages("the next page has 1", "1 2 | 3 5 | 6", x);
    }

    private static void otherwiseGoesToTheNextPage() {
        holds("otherwise its record goes to the next page");
        String[] laid = {"1 2 | 3 4", "1 2 | 3 4 | 5 6", "1 2 | 3 4 | 5 6"};
        int[] taken = {2, 3, 1};
        String[] due = {"1 3 4", "1 2 | 4 5 6", "2 3 4 | 5 6"};
        takenFrom(laid, taken, due);
        PageBail x = Look.swept("1 2 | 3 4 5", 2, "1 2 3 4 | 5");
        Look.payBack(x, 1, 2, 3);
        check.pages("the next page has 1, and there is none ahead", "4 5", x);
        PageBail y = Look.swept("2 3 | 4 5 6", 2, "2 3 4 5 | 6");
        Look.put(y, 1);
        Look.payBack(y, 1, 5);
        check.pages("the next page has 1, the one ahead 2", "2 3 | 4 6", y);
    }

    private static void withoutNextPageGoesToThePageAhead() {
        holds("or, if there is no next page, to the page ahead, and it is gone");
        String[] laid = {"1 2 | 3 4", "1 2 | 3 4 | 5 6"};
        int[] taken = {3, 6};
        String[] due = {"1 2 4", "1 2 | 3 4 5"};
        takenFrom(laid, taken, due);
        PageBail x = Look.swept("1 2 | 3 4 | 5 6", 1, "1 2 3 | 4 | 5 6");
        x.payBack(6);
        check.pages("the page ahead has 1", "1 2 3 | 4 5", x);
        check.due("pages(), it is gone", 2, x.pages());
    }

    private static void aPageWithoutRecordsIsGone() {
        holds("A page without records is gone.");
        PageBail x = Look.with(1);
        x.payBack(1);
        check.due("pages(), the only one", 0, x.pages());
        PageBail y = Look.swept("1 2 | 3 4 5", 2, "1 2 3 4 | 5");
        y.payBack(5);
        check.pages("the last one", "1 2 3 4", y);
        PageBail z = twoPagesOf1();
        z.payBack(4);
        check.pages("one in between, and the next of 1 stays as it is", "0 1 2 3 | 5", z);
        PageBail w = twoPagesOf1();
        w.payBack(5);
        check.pages("the last one, and the one of 1 ahead stays as it is", "0 1 2 3 | 4", w);
    }

    /** A put splits the page at which a sweep is, so that the sweep takes from two pages behind. */
    private static PageBail twoPagesOf1() {
        PageBail x = Look.swept("1 2 | 3 4 5", 2, "1 2 3 4 | 5");
        Look.put(x, 0);
        x.step(1);
        check.pages("two pages of 1", "0 1 2 3 | 4 | 5", x);
        return x;
    }

    private static void asManyPagesAsThereCanBe() {
        holds("A page has at most 4 records, and at least 1");
        PageBail x = Look.with(94, 95, 96, 97, 98);
        x.sweep();
        x.step(2);
        for (int number = 93; number > 18; number--) {
            x.put(number, 1, 1);
            x.step(1);
        }
        check.due("records()", 80, x.records());
        check.due("pages(), one of 4, the others of 1", 77, x.pages());
        check.due("size(0)", 4, x.size(0));
        check.due("size(76)", 1, x.size(76));
        check.due("at(76, 0)", 98, x.at(76, 0));
        check.due("pageOf(98)", 76, x.pageOf(98));
        check.due("step(100), three to each page", 57, x.step(100));
        check.due("pages() when all are packed", 20, x.pages());
        check.due("amnesty(10000, 0)", 80, x.amnesty(10000, 0));
        check.due("pages() when all are gone", 0, x.pages());
    }
}

/** "Terms", its part "Walks". */
public final class TermsWalksTest {
    private static final Check check = new Check("TermsWalksTest");

    public static void main(String[] args) {
        check.run(
                TermsWalksTest::thereAreTheReaders0To3,
                TermsWalksTest::theLowestCaseAboveTheLast,
                TermsWalksTest::whateverHasHappenedToThat,
                TermsWalksTest::whateverHasHappenedToThePages,
                TermsWalksTest::atFirstAheadOfAll,
                TermsWalksTest::behindTheLastAheadOfAll,
                TermsWalksTest::notBehindTheLastBeforeItWasTold,
                TermsWalksTest::aWalkOver80);
    }

    private static void holds(String words) {
        check.holds("Terms, Walks", words);
    }

    private static void walks(String when, PageBail x, int reader, int... due) {
        for (int number : due) {
            check.due("walk(" + reader + ") " + when, number, x.walk(reader));
        }
    }

    private static void thereAreTheReaders0To3() {
        holds("There are the readers 0 to 3.");
        PageBail x = Look.with(10, 20, 30, 40);
        walks("by itself", x, 0, 10);
        walks("by itself", x, 1, 10, 20);
        walks("by itself", x, 2, 10, 20, 30);
        walks("by itself", x, 3, 10, 20, 30, 40);
        walks("on", x, 0, 20);
        walks("on", x, 1, 30);
        walks("on", x, 2, 40);
        walks("on", x, 3, PageBail.NONE);
        for (int reader : Look.outside(0, 3)) {
            check.illegalArgument("walk(" + reader + ")", () -> Look.with(10, 20),
                    y -> y.walk(reader));
        }
    }

    private static void theLowestCaseAboveTheLast() {
        holds("A reader who walks on comes to the record with the lowest case above the one that the"
                + " reader came to last");
        PageBail x = Look.with(0, 10, 20, 998);
        walks("at first", x, 0, 0, 10);
        Look.put(x, 9, 11, 19);
        walks("past 9, put below the last", x, 0, 11);
        x.payBack(19);
        walks("to 20, 19 is gone", x, 0, 20);
        Look.put(x, 999);
        walks("to the greatest cases", x, 0, 998, 999, PageBail.NONE);
    }

    private static void whateverHasHappenedToThat() {
        holds("whatever has happened to that");
        PageBail x = Look.laid("10 20 | 30 40 50");
        walks("at first", x, 0, 10, 20);
        x.payBack(20);
        walks("on from one that is paid back", x, 0, 30);
        x.payBack(30);
        Look.put(x, 30);
        walks("on from one that was put again", x, 0, 40);
        x.forfeit(40);
        x.forfeit(50);
        walks("on from a forfeited one to another", x, 0, 50);
        PageBail y = Look.laid("10 20 30");
        walks("at first", y, 0, 10);
        y.forfeit(10);
        y.pass(15);
        walks("on from one that was kept", y, 0, 20);
        y.amnesty(21, 0);
        walks("on from one under an amnesty", y, 0, 30);
        y.payBack(30);
        Look.put(y, 5);
        walks("on from the last one, gone, with none above", y, 0, PageBail.NONE, 5);
    }

    private static void whateverHasHappenedToThePages() {
        holds("whatever has happened to that");
        PageBail x = Look.laid("10 20 | 30 40 | 50 60 70");
        walks("at first", x, 0, 10, 20, 30);
        x.sweep();
        x.step(100);
        check.pages("swept", "10 20 30 40 | 50 60 70", x);
        walks("on behind a sweep", x, 0, 40);
        Look.put(x, 35);
        walks("on behind a split", x, 0, 50);
        Look.payBack(x, 10, 20, 30);
        walks("on behind pages that are joined", x, 0, 60, 70, PageBail.NONE);
    }

    private static void atFirstAheadOfAll() {
        holds("at first, and behind the last one, the reader is ahead of all records");
        walks("at first, to the least case", Look.with(0, 1), 0, 0, 1);
        walks("at first, to the greatest case", Look.with(999), 0, 999, PageBail.NONE);
        PageBail x = new PageBail();
        walks("without records", x, 2, PageBail.NONE, PageBail.NONE);
        Look.put(x, 0);
        walks("still ahead of all", x, 2, 0);
    }

    private static void behindTheLastAheadOfAll() {
        holds("at first, and behind the last one, the reader is ahead of all records");
        PageBail x = Look.with(0, 999);
        walks("around", x, 1, 0, 999, PageBail.NONE, 0, 999, PageBail.NONE);
        x.payBack(0);
        walks("around, with another first one", x, 1, 999, PageBail.NONE);
        x.payBack(999);
        walks("around, without records", x, 1, PageBail.NONE, PageBail.NONE);
        Look.put(x, 5);
        walks("around, with a new one", x, 1, 5, PageBail.NONE, 5);
    }

    private static void notBehindTheLastBeforeItWasTold() {
        holds("comes to the record with the lowest case above the one that the reader came to last");
        PageBail x = Look.with(10, 20);
        walks("to the last one", x, 0, 10, 20);
        Look.put(x, 30, 5);
        walks("on to one that was put above", x, 0, 30, PageBail.NONE, 5);
    }

    private static void aWalkOver80() {
        holds("comes to the record with the lowest case above the one that the reader came to last");
        PageBail x = Look.full();
        for (int i = 0; i < 80; i++) {
            walks("over 80", x, 3, i * 10);
        }
        walks("behind 80", x, 3, PageBail.NONE, 0);
    }
}

/** "Terms", its part "Bail". */
public final class TermsBailTest {
    private static final Check check = new Check("TermsBailTest");

    public static void main(String[] args) {
        check.run(
                TermsBailTest::paidBackWhenTakenOut,
                TermsBailTest::undoneOnTheDayDPlus14AndEarlier,
                TermsBailTest::theLastDayOfTheDay0,
                TermsBailTest::keptWhenALaterDayBegins,
                TermsBailTest::keptWhateverDaysPassAtOnce,
                TermsBailTest::ofSeveralByRisingCases,
                TermsBailTest::ofSeveralDaysTheEarlierFirst,
                TermsBailTest::eachForfeitHasItsOwnTerm,
                TermsBailTest::aForfeitedOneCannotBePaidBack,
                TermsBailTest::anAmnestySparesForfeited,
                TermsBailTest::anAmnestyUpToTheSum,
                TermsBailTest::anAmnestyUpToTheDay,
                TermsBailTest::anAmnestyPaysBack,
                TermsBailTest::anAmnestyByRisingCases);
    }

    private static void holds(String words) {
        check.holds("Terms, Bail", words);
    }

    private static void paidBackWhenTakenOut() {
        holds("Bail is paid back when its record is taken out.");
        PageBail x = Look.with(10, 20);
        check.due("payBack(20)", 21, x.payBack(20));
        check.due("paidBack()", 21, x.paidBack());
        check.pages("its record is taken out", "10", x);
        check.due("heldBy(0)", 11, x.heldBy(0));
    }

    /** The case 2 of four is forfeited on the day told, and then days pass. */
    private static PageBail forfeited(int day, int days) {
        PageBail x = Look.laid("1 2 3 4");
        pass(x, day);
        x.forfeit(2);
        pass(x, days);
        return x;
    }

    private static void pass(PageBail x, int days) {
        for (int left = days; left > 0; left -= 100) {
            x.pass(Math.min(left, 100));
        }
    }

    private static void undoneOnTheDayDPlus14AndEarlier() {
        holds("for 14 days that can be undone: on the day d + 14 and earlier, if it was forfeited on"
                + " the day d");
        for (int day : new int[] {0, 1, 14, 15, 333, 4986}) {
            String on = "forfeited on " + day;
            check.due("undo(2) on d, " + on, 0, forfeited(day, 0).undo(2));
            check.due("undo(2) on d + 1, " + on, 1, forfeited(day, 1).undo(2));
            check.due("undo(2) on d + 13, " + on, 13, forfeited(day, 13).undo(2));
            check.due("undo(2) on d + 14, " + on, 14, forfeited(day, 14).undo(2));
        }
        for (int day : new int[] {0, 1, 14, 4985}) {
            check.illegalState("undo(2) on d + 15, forfeited on " + day, () -> forfeited(day, 15),
                    x -> x.undo(2));
        }
    }

    private static void theLastDayOfTheDay0() {
        holds("on the day d + 14 and earlier");
        PageBail x = forfeited(0, 13);
        check.due("isForfeited(2) on the day 13", true, x.isForfeited(2));
        check.due("pass(1) to the day 14", 0, x.pass(1));
        check.due("isForfeited(2) on the day 14", true, x.isForfeited(2));
        check.due("kept() on the day 14", 0, x.kept());
        check.due("undo(2) on the day 14", 14, x.undo(2));
        check.due("pass(100), undone", 0, x.pass(100));
        check.pages("undone in time", "1 2 3 4", x);
    }

    private static void keptWhenALaterDayBegins() {
        holds("When a later day begins, the sum is kept, and its record is taken out");
        for (int day : new int[] {0, 1, 14, 4985}) {
            PageBail x = forfeited(day, 14);
            check.pages("on d + 14, forfeited on " + day, "1 2 3 4", x);
            check.due("pass(1) to d + 15", 1, x.pass(1));
            check.due("kept() on d + 15", 3, x.kept());
            check.due("paidBack() on d + 15", 0, x.paidBack());
            check.pages("on d + 15", "1 3 4", x);
        }
    }

    private static void keptWhateverDaysPassAtOnce() {
        holds("When a later day begins");
        for (int days : new int[] {15, 16, 29, 99, 100}) {
            PageBail x = forfeited(3, 0);
            check.due("pass(" + days + ")", 1, x.pass(days));
            check.due("kept()", 3, x.kept());
            check.due("today()", days + 3, x.today());
        }
        check.due("pass(14) at once", 0, forfeited(3, 0).pass(14));
    }

    /** To take 1 and then 4 leaves other pages than to take 4 and then 1. */
    private static PageBail whereTheOrderCounts() {
        PageBail x = new PageBail();
        x.put(1, 1, 1);
        Look.put(x, 2, 3);
        x.put(4, 1, 4);
        Look.put(x, 5, 6, 7);
        check.pages("as laid", "1 2 | 3 4 | 5 6 7", x);
        return x;
    }

    private static void ofSeveralByRisingCases() {
        holds("of several records by rising cases");
        PageBail x = whereTheOrderCounts();
        Look.payBack(x, 1, 4);
        check.pages("1 taken, then 4", "2 3 | 5 6 7", x);
        x = whereTheOrderCounts();
        Look.payBack(x, 4, 1);
        check.pages("4 taken, then 1", "2 3 5 | 6 7", x);
        x = whereTheOrderCounts();
        Look.forfeit(x, 4, 1);
        check.due("pass(15), 4 forfeited ahead of 1", 2, x.pass(15));
        check.pages("both kept on one day", "2 3 | 5 6 7", x);
    }

    private static void ofSeveralDaysTheEarlierFirst() {
        holds("When a later day begins");
        PageBail x = whereTheOrderCounts();
        x.forfeit(4);
        x.pass(1);
        x.forfeit(1);
        check.due("pass(15), 4 forfeited a day ahead of 1", 2, x.pass(15));
        check.pages("4 kept on the day 15, 1 on the day 16", "2 3 5 | 6 7", x);
    }

    private static void eachForfeitHasItsOwnTerm() {
        holds("if it was forfeited on the day d");
        PageBail x = forfeited(0, 10);
        x.undo(2);
        Look.forfeit(x, 2, 3);
        check.due("pass(14), forfeited anew on the day 10", 0, x.pass(14));
        check.due("undo(2) for the days since then", 14, x.undo(2));
        check.due("pass(1), 3 is kept", 1, x.pass(1));
        check.pages("2 stays", "1 2 4", x);
        Look.put(x, 3);
        check.due("isForfeited(3), put again", false, x.isForfeited(3));
        check.due("pass(100)", 0, x.pass(100));
    }

    private static void aForfeitedOneCannotBePaidBack() {
        holds("A forfeited record cannot be paid back.");
        check.illegalState("payBack(2) on d", () -> forfeited(0, 0), x -> x.payBack(2));
        check.illegalState("payBack(2) on d + 14", () -> forfeited(0, 14), x -> x.payBack(2));
        PageBail x = forfeited(0, 14);
        x.undo(2);
        check.due("payBack(2), undone", 3, x.payBack(2));
    }

    private static void anAmnestySparesForfeited() {
        holds("An amnesty takes out all records that are not forfeited");
        PageBail x = Look.laid("1 2 3 4");
        Look.forfeit(x, 1, 3);
        x.undo(3);
        check.due("amnesty(10000, 0)", 3, x.amnesty(10000, 0));
        check.pages("1 is forfeited, 3 no more", "1", x);
        check.due("amnesty(10000, 0) of forfeited ones", 0, x.amnesty(10000, 0));
        x.pass(14);
        check.due("amnesty(10000, 14) on d + 14", 0, x.amnesty(10000, 14));
    }

    private static void anAmnestyUpToTheSum() {
        holds("have a sum at most as great as told");
        PageBail x = new PageBail();
        x.put(1, 1, 0);
        x.put(2, 99, 0);
        x.put(3, 100, 0);
        x.put(4, 101, 0);
        check.due("amnesty(98, 0)", 1, x.amnesty(98, 0));
        check.pages("the sum 1 is out, 99 is not", "2 3 4", x);
        check.due("amnesty(100, 0)", 2, x.amnesty(100, 0));
        check.pages("the sums 99 and 100 are out, 101 is not", "4", x);
        x.put(5, 10000, 0);
        check.due("amnesty(9999, 0)", 1, x.amnesty(9999, 0));
        check.due("amnesty(10000, 0)", 1, x.amnesty(10000, 0));
    }

    private static void anAmnestyUpToTheDay() {
        holds("were put on a day or earlier");
        PageBail x = Look.with(1);
        for (int number = 2; number <= 4; number++) {
            x.pass(1);
            Look.put(x, number);
        }
        check.due("amnesty(10000, 0)", 1, x.amnesty(10000, 0));
        check.pages("put on the days 1 to 3", "2 3 4", x);
        check.due("amnesty(10000, 2)", 2, x.amnesty(10000, 2));
        check.pages("put on the day 3", "4", x);
        check.due("amnesty(10000, 3)", 1, x.amnesty(10000, 3));
    }

    private static void anAmnestyPaysBack() {
        holds("they are paid back");
        PageBail x = Look.laid("1 2 | 3 4 5");
        x.payBack(1);
        x.forfeit(4);
        check.due("amnesty(6, 0)", 3, x.amnesty(6, 0));
        check.due("paidBack(), with 2 of case 1", 2 + 3 + 4 + 6, x.paidBack());
        check.due("kept()", 0, x.kept());
    }

    private static void anAmnestyByRisingCases() {
        holds("they are paid back, by rising cases");
        PageBail x = whereTheOrderCounts();
        check.due("amnesty(1, 0)", 2, x.amnesty(1, 0));
        check.pages("1 taken, then 4", "2 3 | 5 6 7", x);
    }
}

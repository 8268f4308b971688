/**
 * "What it is" and what stands in "Terms" ahead of its parts: the number of calls, the days, which
 * exception is thrown, and that a call that throws changes nothing.
 */
public final class TermsTest {
    private static final Check check = new Check("TermsTest");

    public static void main(String[] args) {
        check.run(
                TermsTest::at512CallsPutsAndPayBacksStand,
                TermsTest::at512CallsWalksStand,
                TermsTest::at512CallsForfeitsStand,
                TermsTest::at512CallsSweepsStand,
                TermsTest::at512CallsRefusedOnesStand,
                TermsTest::daysAreNumberedFrom0,
                TermsTest::noSuchPageOrPlace,
                TermsTest::anotherArgumentOutOfRange,
                TermsTest::theStateAsItDocuments,
                TermsTest::argumentAheadOfState,
                TermsTest::argumentAheadOfStateIn80,
                TermsTest::argumentAheadOfStateOnTheLastDay,
                TermsTest::refusedRecordCallsChangeNothing,
                TermsTest::refusedPageCallsChangeNothing,
                TermsTest::refusedSweepAndWalkCallsChangeNothing,
                TermsTest::refusedPutsChangeNothingIn80,
                TermsTest::refusedPassChangesNothing);
    }

    private static void holds512() {
        check.holds("What it is", "An object is used for at most 512 calls after it has been made");
    }

    private static void at512CallsPutsAndPayBacksStand() {
        holds512();
        PageBail x = new PageBail();
        for (int i = 0; i < 255; i++) {
            x.put(i * 3, 10000, i % 10);
            x.payBack(i * 3);
        }
        check.due("records(), the 511th call", 0, x.records());
        check.due("paidBack(), the 512th call", 2550000, x.paidBack());
    }

    private static void at512CallsWalksStand() {
        holds512();
        PageBail x = Look.with(0, 10, 999);
        int[] due = {0, 10, 999, PageBail.NONE};
        int wrong = 0;
        for (int i = 0; i < 509; i++) {
            wrong += x.walk(3) == due[i % 4] ? 0 : 1;
        }
        check.due("wrong walks up to the 512th call", 0, wrong);
    }

    private static void at512CallsForfeitsStand() {
        holds512();
        PageBail x = Look.with(7);
        for (int i = 0; i < 255; i++) {
            x.forfeit(7);
            x.undo(7);
        }
        check.due("isForfeited(7), the 512th call", false, x.isForfeited(7));
        PageBail y = Look.with(7);
        for (int i = 0; i < 255; i++) {
            y.forfeit(7);
            y.undo(7);
        }
        check.due("forfeit(7), the 512th call", "", Look.forfeit(y, 7));
    }

    private static void at512CallsSweepsStand() {
        holds512();
        PageBail x = Look.with(7);
        int moved = 0;
        for (int i = 0; i < 255; i++) {
            x.sweep();
            moved += x.step(1);
        }
        check.due("all that moved", 0, moved);
        check.due("sweeping(), the 512th call", PageBail.NONE, x.sweeping());
    }

    private static void at512CallsRefusedOnesStand() {
        holds512();
        PageBail x = new PageBail();
        for (int i = 0; i < 511; i++) {
            Check.thrownBy(() -> x.put(0, 0, 0));
        }
        check.due("put(0, 1, 0), the 512th call", 1, x.put(0, 1, 0));
    }

    private static void daysAreNumberedFrom0() {
        check.holds("Terms", "Days are numbered from 0; today is 0 at first.");
        PageBail x = Look.with(5);
        check.due("today() at first", 0, x.today());
        x.pass(1);
        check.due("today() a day later", 1, x.today());
        check.due("amnesty(10000, 0) of what was put at first", 1, x.amnesty(10000, 0));
    }

    private static void noSuchPageOrPlace() {
        check.holds("Terms",
                "A method throws IndexOutOfBoundsException if there is no such page or place");
        check.outOfBounds("size(0) without pages", PageBail::new, x -> x.size(0));
        check.outOfBounds("at(0, 0) without pages", PageBail::new, x -> x.at(0, 0));
        check.outOfBounds("size(1) of one page", () -> Look.laid("1 2"), x -> x.size(1));
        check.outOfBounds("at(1, 0) of one page", () -> Look.laid("1 2"), x -> x.at(1, 0));
        check.outOfBounds("at(0, 2) of two places", () -> Look.laid("1 2"), x -> x.at(0, 2));
    }

    private static void anotherArgumentOutOfRange() {
        check.holds("Terms", "IllegalArgumentException if another argument is out of range");
        Check.Act[] acts = {x -> x.put(1000, 1, 0), x -> x.put(0, 0, 0), x -> x.put(0, 1, 10),
            x -> x.payBack(1000), x -> Look.forfeit(x, 1000), x -> x.undo(1000),
            x -> x.amnesty(0, 0), x -> x.amnesty(1, 1), x -> x.sum(1000), x -> x.isForfeited(1000),
            x -> x.heldBy(10), x -> x.pass(0), x -> x.pageOf(1000), x -> x.step(0), x -> x.walk(4)};
        for (int i = 0; i < acts.length; i++) {
            check.illegalArgument("the call " + i + " of the row", PageBail::new, acts[i]);
        }
    }

    private static void theStateAsItDocuments() {
        check.holds("Terms", "and IllegalStateException as it documents");
        Check.Act[] acts = {x -> x.put(2, 1, 1), x -> x.payBack(3), x -> x.payBack(1),
            x -> Look.forfeit(x, 3), x -> Look.forfeit(x, 1), x -> x.undo(3), x -> x.undo(2),
            x -> x.pass(2), Look::sweep};
        for (int i = 0; i < acts.length; i++) {
            check.illegalState("the call " + i + " of the row", () -> {
                PageBail x = onDay(4999);
                Look.forfeit(x, 1);
                x.sweep();
                return x;
            }, acts[i]);
        }
        check.illegalState("step(1) without a sweep", () -> onDay(4999), x -> x.step(1));
    }

    private static void holdsFirst() {
        check.holds("Terms", "if several apply, the one that it lists first is thrown");
    }

    private static void argumentAheadOfState() {
        holdsFirst();
        Check.Maker one = () -> Look.laid("1 2");
        check.illegalArgument("put(1, 0, 0) of a case that has a record", one, x -> x.put(1, 0, 0));
        check.illegalArgument("put(1, 10001, 0) of it", one, x -> x.put(1, 10001, 0));
        check.illegalArgument("put(1, 1, -1) of it", one, x -> x.put(1, 1, -1));
        check.illegalArgument("put(1, 1, 10) of it", one, x -> x.put(1, 1, 10));
        check.illegalArgument("payBack(-1), without a record too", one, x -> x.payBack(-1));
        check.illegalArgument("forfeit(-1), without a record too", one, x -> Look.forfeit(x, -1));
        check.illegalArgument("undo(-1), without a record too", one, x -> x.undo(-1));
        check.illegalArgument("step(0) without a sweep", one, x -> x.step(0));
        check.illegalArgument("step(101) without a sweep", one, x -> x.step(101));
    }

    private static void argumentAheadOfStateIn80() {
        holdsFirst();
        check.illegalArgument("put(1000, 1, 0) ahead of 80", Look::full, x -> x.put(1000, 1, 0));
        check.illegalArgument("put(5, 0, 0) ahead of 80", Look::full, x -> x.put(5, 0, 0));
        check.illegalArgument("put(5, 1, 10) ahead of 80", Look::full, x -> x.put(5, 1, 10));
    }

    private static void argumentAheadOfStateOnTheLastDay() {
        holdsFirst();
        check.illegalArgument("pass(101) above 5000", () -> onDay(5000), x -> x.pass(101));
        check.illegalArgument("pass(the greatest int)", () -> onDay(5000),
                x -> x.pass(Integer.MAX_VALUE));
    }

    /** An object with two records at that day. */
    private static PageBail onDay(int day) {
        PageBail x = Look.laid("1 2");
        for (int left = day; left > 0; left -= 100) {
            x.pass(Math.min(left, 100));
        }
        return x;
    }

    /**
     * Whatever can change has another value than at first: pages of 4, 2 and 3, the days of the
     * records, two forfeits, what was paid back and kept, a sweep at 1 and three of the readers.
     */
    private static PageBail inTheMidst() {
        PageBail x = Look.laid("10 20 | 30 40 | 50 60 70");
        Look.put(x, 5, 6);
        Look.forfeit(x, 5);
        x.pass(15);
        x.payBack(6);
        Look.put(x, 22, 24);
        Look.forfeit(x, 30);
        x.pass(14);
        Look.forfeit(x, 70);
        x.sweep();
        x.step(1);
        x.walk(1);
        x.walk(2);
        x.walk(2);
        for (int i = 0; i < 9; i++) {
            x.walk(3);
        }
        check.pages("in the midst", "10 20 22 24 | 30 40 | 50 60 70", x);
        return x;
    }

    private static void holdsNothing() {
        check.holds("Terms", "A call that throws changes nothing.");
    }

    private static void refusedRecordCallsChangeNothing() {
        holdsNothing();
        Check.Maker midst = TermsTest::inTheMidst;
        check.illegalArgument("put(1000, 1, 0)", midst, x -> x.put(1000, 1, 0));
        check.illegalArgument("put(23, 0, 0) to a full page", midst, x -> x.put(23, 0, 0));
        check.illegalArgument("put(23, 1, 10) to a full page", midst, x -> x.put(23, 1, 10));
        check.illegalState("put(24, 1, 0) to its full page", midst, x -> x.put(24, 1, 0));
        check.illegalState("put(30, 1, 0), forfeited", midst, x -> x.put(30, 1, 0));
        check.illegalArgument("payBack(1000)", midst, x -> x.payBack(1000));
        check.illegalState("payBack(41)", midst, x -> x.payBack(41));
        check.illegalState("payBack(30)", midst, x -> x.payBack(30));
        check.illegalArgument("forfeit(1000)", midst, x -> Look.forfeit(x, 1000));
        check.illegalState("forfeit(41)", midst, x -> Look.forfeit(x, 41));
        check.illegalState("forfeit(30) again, later", midst, x -> Look.forfeit(x, 30));
        check.illegalArgument("undo(1000)", midst, x -> x.undo(1000));
        check.illegalState("undo(41)", midst, x -> x.undo(41));
        check.illegalState("undo(40)", midst, x -> x.undo(40));
        check.illegalArgument("amnesty(10001, 0)", midst, x -> x.amnesty(10001, 0));
        check.illegalArgument("amnesty(10000, 30)", midst, x -> x.amnesty(10000, 30));
        check.illegalArgument("sum(1000)", midst, x -> x.sum(1000));
        check.illegalArgument("isForfeited(-1)", midst, x -> x.isForfeited(-1));
        check.illegalArgument("heldBy(10)", midst, x -> x.heldBy(10));
    }

    private static void refusedPageCallsChangeNothing() {
        holdsNothing();
        Check.Maker midst = TermsTest::inTheMidst;
        check.outOfBounds("size(3)", midst, x -> x.size(3));
        check.outOfBounds("at(3, 0)", midst, x -> x.at(3, 0));
        check.outOfBounds("at(1, 2)", midst, x -> x.at(1, 2));
        check.illegalArgument("pageOf(1000)", midst, x -> x.pageOf(1000));
    }

    private static void refusedSweepAndWalkCallsChangeNothing() {
        holdsNothing();
        Check.Maker midst = TermsTest::inTheMidst;
        check.illegalState("sweep() at the page 1", midst, Look::sweep);
        check.illegalArgument("step(0)", midst, x -> x.step(0));
        check.illegalArgument("step(101)", midst, x -> x.step(101));
        check.illegalState("step(1) without a sweep", () -> Look.laid("1 2 | 3 4"), x -> x.step(1));
        check.illegalArgument("walk(4)", midst, x -> x.walk(4));
        check.illegalArgument("walk(-1)", midst, x -> x.walk(-1));
    }

    private static void refusedPutsChangeNothingIn80() {
        holdsNothing();
        check.illegalState("put(795, 1, 0) of 81, to the full page", Look::full,
                x -> x.put(795, 1, 0));
        check.illegalState("put(5, 1, 0) of 81", Look::full, x -> x.put(5, 1, 0));
    }

    private static void refusedPassChangesNothing() {
        holdsNothing();
        Check.Maker late = () -> {
            PageBail x = onDay(4985);
            Look.forfeit(x, 2);
            x.pass(14);
            return x;
        };
        check.illegalState("pass(2) over the end of a term", late, x -> x.pass(2));
        check.illegalState("pass(100) over the end of a term", late, x -> x.pass(100));
        check.illegalArgument("pass(0)", late, x -> x.pass(0));
    }
}

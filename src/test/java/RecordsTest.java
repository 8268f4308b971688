/** Promises 1 to 14: a new object and the records. */
public final class RecordsTest {
    private static final Check check = new Check("RecordsTest");

    public static void main(String[] args) {
        check.run(
                RecordsTest::promise1NoRecordsAndDay0,
                RecordsTest::promise2Number,
                RecordsTest::promise2Sum,
                RecordsTest::promise2Surety,
                RecordsTest::promise2ReturnsThePages,
                RecordsTest::promise2ThereIsARecord,
                RecordsTest::promise2ThereAre80,
                RecordsTest::promise3Number,
                RecordsTest::promise3ReturnsItsSum,
                RecordsTest::promise3NoRecordOrForfeited,
                RecordsTest::promise4Number,
                RecordsTest::promise4ForfeitsToday,
                RecordsTest::promise4NoRecordOrForfeited,
                RecordsTest::promise5Number,
                RecordsTest::promise5ReturnsTheDays,
                RecordsTest::promise5NoRecordOrNotForfeited,
                RecordsTest::promise6Sum,
                RecordsTest::promise6Day,
                RecordsTest::promise6ReturnsHowMany,
                RecordsTest::promise7Records,
                RecordsTest::promise8Sum,
                RecordsTest::promise8ZeroIfNone,
                RecordsTest::promise9IsForfeited,
                RecordsTest::promise9FalseIfNone,
                RecordsTest::promise10Surety,
                RecordsTest::promise10AllRecordsOfASurety,
                RecordsTest::promise11Kept,
                RecordsTest::promise12PaidBack,
                RecordsTest::promise13Days,
                RecordsTest::promise13ReturnsHowMany,
                RecordsTest::promise13NotAbove5000,
                RecordsTest::promise14Today);
    }

    private static void promise1NoRecordsAndDay0() {
        check.holds("Promise 1", "No records; today is 0.");
        StringBuilder held = new StringBuilder();
        for (int surety = 0; surety <= 9; surety++) {
            held.append(", held by ").append(surety).append(": 0");
        }
        String due = held + ", records 0, kept 0, paid back 0, today 0, sweeping -1,"
                + " walk -1, walk -1, walk -1, walk -1, put to day 0: 0";
        check.due("a new object", due, Look.all(new PageBail()));
        PageBail x = new PageBail();
        PageBail other = Look.with(0, 7, 999);
        other.forfeit(7);
        other.sweep();
        other.walk(0);
        other.pass(3);
        check.due("a new object beside another one", due, Look.all(x));
        int found = 0;
        for (int number = 0; number <= 999; number += 9) {
            found += new PageBail().pageOf(number) == PageBail.NONE ? 0 : 1;
        }
        check.due("cases found in new objects", 0, found);
    }

    private static void promise2Number() {
        check.holds("Promise 2", "`number`: 0 to 999: the case");
        for (int number : new int[] {0, 1, 500, 998, 999}) {
            PageBail x = new PageBail();
            check.due("put(" + number + ", 70, 7)", 1, x.put(number, 70, 7));
            check.due("at(0, 0)", number, x.at(0, 0));
            check.due("sum(" + number + ")", 70, x.sum(number));
        }
        for (int number : Look.outside(0, 999)) {
            check.illegalArgument("put(" + number + ", 1, 1)", () -> Look.laid("1 2 3 4"),
                    x -> x.put(number, 1, 1));
        }
    }

    private static void promise2Sum() {
        check.holds("Promise 2", "`sum`: 1 to 10000");
        for (int sum : new int[] {1, 2, 9999, 10000}) {
            PageBail x = new PageBail();
            check.due("put(7, " + sum + ", 7)", 1, x.put(7, sum, 7));
            check.due("sum(7)", sum, x.sum(7));
        }
        for (int sum : Look.outside(1, 10000)) {
            check.illegalArgument("put(7, " + sum + ", 7)", () -> Look.laid("1 2 3 4"),
                    x -> x.put(7, sum, 7));
        }
    }

    private static void promise2Surety() {
        check.holds("Promise 2", "`surety`: 0 to 9");
        for (int surety = 0; surety <= 9; surety++) {
            PageBail x = new PageBail();
            check.due("put(7, 70, " + surety + ")", 1, x.put(7, 70, surety));
            check.due("heldBy(" + surety + ")", 70, x.heldBy(surety));
        }
        for (int surety : Look.outside(0, 9)) {
            check.illegalArgument("put(7, 70, " + surety + ")", () -> Look.laid("1 2 3 4"),
                    x -> x.put(7, 70, surety));
        }
    }

    private static void promise2ReturnsThePages() {
        check.holds("Promise 2", "Returns the number of pages then.");
        PageBail x = new PageBail();
        int[] due = {1, 1, 1, 1, 2, 2, 3, 3, 4};
        for (int i = 0; i < due.length; i++) {
            check.due("put(" + i + ", 1, 1)", due[i], x.put(i, 1, 1));
            check.due("pages()", due[i], x.pages());
        }
    }

    private static void promise2ThereIsARecord() {
        check.holds("Promise 2", "if there is a record of the case");
        Check.Maker four = () -> Look.laid("0 10 20 999");
        check.illegalState("put(0, 1, 1)", four, x -> x.put(0, 1, 1));
        check.illegalState("put(999, 1, 1)", four, x -> x.put(999, 1, 1));
        check.illegalState("put(10, 11, 0), the same once more", four, x -> x.put(10, 11, 0));
        check.illegalState("put(10, 1, 1), forfeited", () -> forfeited(10), x -> x.put(10, 1, 1));
        PageBail y = forfeited(10);
        y.pass(15);
        check.due("put(10, 1, 1), the other was kept", 1, y.put(10, 1, 1));
    }

    private static void promise2ThereAre80() {
        check.holds("Promise 2", "or there are 80");
        check.illegalState("put(1, 1, 1) of 81, on the first page", Look::full,
                x -> x.put(1, 1, 1));
        check.illegalState("put(999, 1, 1) of 81, on the last page", Look::full,
                x -> x.put(999, 1, 1));
        check.illegalState("put(790, 1, 1), both apply", Look::full, x -> x.put(790, 1, 1));
        PageBail x = Look.full();
        check.due("records()", 80, x.records());
        x.payBack(400);
        check.due("put(401, 1, 1), the 80th again", 38, x.put(401, 1, 1));
        check.throwsOnly("put(402, 1, 1) of 81", IllegalStateException.class,
                () -> x.put(402, 1, 1));
        check.due("records() of 80 again", 80, x.records());
    }

    private static PageBail forfeited(int number) {
        PageBail x = Look.laid("0 10 20 999");
        x.forfeit(number);
        return x;
    }

    private static void promise3Number() {
        check.holds("Promise 3", "`number`: 0 to 999: the case");
        PageBail x = Look.with(0, 999);
        check.due("payBack(0)", 1, x.payBack(0));
        check.due("payBack(999)", 1000, x.payBack(999));
        for (int number : Look.outside(0, 999)) {
            check.illegalArgument("payBack(" + number + ")", () -> Look.with(0, 1, 999),
                    y -> y.payBack(number));
        }
    }

    private static void promise3ReturnsItsSum() {
        check.holds("Promise 3", "Returns its sum.");
        PageBail x = new PageBail();
        x.put(1, 1, 1);
        x.put(2, 10000, 2);
        check.due("payBack(2), the greatest sum", 10000, x.payBack(2));
        check.due("payBack(1), the least sum, the last record", 1, x.payBack(1));
    }

    private static void promise3NoRecordOrForfeited() {
        check.holds("Promise 3", "if there is no record of the case, or it is forfeited");
        check.illegalState("payBack(0) without records", PageBail::new, x -> x.payBack(0));
        for (int number : new int[] {1, 9, 11, 998}) {
            check.illegalState("payBack(" + number + ")", () -> Look.laid("0 10 20 999"),
                    x -> x.payBack(number));
        }
        for (int number : new int[] {0, 999}) {
            check.illegalState("payBack(" + number + "), forfeited", () -> forfeited(number),
                    x -> x.payBack(number));
        }
        check.illegalState("payBack(10) twice", () -> {
            PageBail x = Look.laid("0 10 20 999");
            x.payBack(10);
            return x;
        }, x -> x.payBack(10));
    }

    private static void promise4Number() {
        check.holds("Promise 4", "`number`: 0 to 999: the case");
        PageBail x = Look.with(0, 500, 999);
        Look.forfeit(x, 0, 999);
        check.due("isForfeited(0)", true, x.isForfeited(0));
        check.due("isForfeited(500)", false, x.isForfeited(500));
        check.due("isForfeited(999)", true, x.isForfeited(999));
        for (int number : Look.outside(0, 999)) {
            check.illegalArgument("forfeit(" + number + ")", () -> Look.with(0, 1, 999),
                    y -> Look.forfeit(y, number));
        }
    }

    private static void promise4ForfeitsToday() {
        check.holds("Promise 4", "Forfeits a bail today.");
        PageBail x = Look.laid("1 2 | 3 4 5");
        x.pass(20);
        Look.forfeit(x, 1);
        check.pages("the record stays where it is", "1 2 | 3 4 5", x);
        check.due("heldBy(1), held yet", 2, x.heldBy(1));
        check.due("kept(), not yet", 0, x.kept());
        check.due("records()", 5, x.records());
        check.due("undo(1), from today on", 0, x.undo(1));
    }

    private static void promise4NoRecordOrForfeited() {
        check.holds("Promise 4", "if there is no record of the case, or it is forfeited");
        check.illegalState("forfeit(0) without records", PageBail::new, x -> Look.forfeit(x, 0));
        for (int number : new int[] {1, 998}) {
            check.illegalState("forfeit(" + number + ")", () -> Look.laid("0 10 20 999"),
                    x -> Look.forfeit(x, number));
        }
        check.illegalState("forfeit(10) twice a day", () -> forfeited(10),
                x -> Look.forfeit(x, 10));
        check.illegalState("forfeit(10) on its last day", () -> {
            PageBail x = forfeited(10);
            x.pass(14);
            return x;
        }, x -> Look.forfeit(x, 10));
        PageBail y = forfeited(10);
        y.undo(10);
        check.due("forfeit(10), undone", "", Look.forfeit(y, 10));
        check.due("isForfeited(10)", true, y.isForfeited(10));
    }

    private static void promise5Number() {
        check.holds("Promise 5", "`number`: 0 to 999: the case");
        PageBail x = Look.with(0, 500, 999);
        Look.forfeit(x, 0, 500, 999);
        check.due("undo(0)", 0, x.undo(0));
        check.due("undo(999)", 0, x.undo(999));
        check.due("isForfeited(0)", false, x.isForfeited(0));
        check.due("isForfeited(500)", true, x.isForfeited(500));
        check.due("isForfeited(999)", false, x.isForfeited(999));
        for (int number : Look.outside(0, 999)) {
            check.illegalArgument("undo(" + number + ")", () -> {
                PageBail y = Look.with(0, 1, 999);
                Look.forfeit(y, 0, 1, 999);
                return y;
            }, y -> y.undo(number));
        }
    }

    private static void promise5ReturnsTheDays() {
        check.holds("Promise 5", "Returns for how many days it was forfeited.");
        PageBail x = Look.with(7);
        for (int days : new int[] {1, 14, 13, 2}) {
            x.forfeit(7);
            x.pass(days);
            check.due("undo(7) behind " + days + " days", days, x.undo(7));
        }
        x.forfeit(7);
        check.due("undo(7) on the same day", 0, x.undo(7));
    }

    private static void promise5NoRecordOrNotForfeited() {
        check.holds("Promise 5", "if there is no record of the case, or it is not forfeited");
        check.illegalState("undo(0) without records", PageBail::new, x -> x.undo(0));
        check.illegalState("undo(1)", () -> forfeited(0), x -> x.undo(1));
        check.illegalState("undo(998)", () -> forfeited(999), x -> x.undo(998));
        check.illegalState("undo(10), another is forfeited", () -> forfeited(0), x -> x.undo(10));
        check.illegalState("undo(10) twice", () -> {
            PageBail x = forfeited(10);
            x.undo(10);
            return x;
        }, x -> x.undo(10));
        check.illegalState("undo(10), kept", () -> {
            PageBail x = forfeited(10);
            x.pass(15);
            return x;
        }, x -> x.undo(10));
    }

    private static void promise6Sum() {
        check.holds("Promise 6", "`sum`: 1 to 10000: the greatest sum");
        Check.Maker both = () -> {
            PageBail x = new PageBail();
            x.put(1, 1, 1);
            x.put(2, 10000, 2);
            return x;
        };
        check.due("amnesty(1, 0)", 1, both.make().amnesty(1, 0));
        check.due("amnesty(9999, 0)", 1, both.make().amnesty(9999, 0));
        check.due("amnesty(10000, 0)", 2, both.make().amnesty(10000, 0));
        for (int sum : Look.outside(1, 10000)) {
            check.illegalArgument("amnesty(" + sum + ", 0)", both, x -> x.amnesty(sum, 0));
        }
    }

    /** Case 1 was put on the day 0, case 2 on the day 3, which is today. */
    private static PageBail onDay3() {
        PageBail x = Look.with(1);
        x.pass(3);
        Look.put(x, 2);
        return x;
    }

    private static void promise6Day() {
        check.holds("Promise 6", "`day`: 0 to today: the latest day on which records were put");
        check.due("amnesty(10000, 0)", 1, onDay3().amnesty(10000, 0));
        check.due("amnesty(10000, 2)", 1, onDay3().amnesty(10000, 2));
        check.due("amnesty(10000, 3), today", 2, onDay3().amnesty(10000, 3));
        for (int day : Look.outside(0, 3)) {
            check.illegalArgument("amnesty(10000, " + day + ")", RecordsTest::onDay3,
                    x -> x.amnesty(10000, day));
        }
        check.illegalArgument("amnesty(10000, 1) on the day 0", () -> Look.with(1),
                x -> x.amnesty(10000, 1));
        check.illegalArgument("amnesty(10001, -1)", () -> Look.with(1), x -> x.amnesty(10001, -1));
        PageBail last = Look.with(1);
        for (int i = 0; i < 50; i++) {
            last.pass(100);
        }
        check.due("amnesty(10000, 5000) on the last day", 1, last.amnesty(10000, 5000));
    }

    private static void promise6ReturnsHowMany() {
        check.holds("Promise 6", "Returns how many records are taken out.");
        check.due("amnesty(1, 0) without records", 0, new PageBail().amnesty(1, 0));
        check.due("amnesty(1, 0) of greater sums", 0, Look.laid("1 2 | 3 4 5").amnesty(1, 0));
        PageBail x = Look.full();
        x.forfeit(300);
        check.due("amnesty(10000, 0) of 79", 79, x.amnesty(10000, 0));
        check.pages("one is left", "300", x);
        check.due("paidBack()", 790000, x.paidBack());
    }

    private static void promise7Records() {
        check.holds("Promise 7", "Returns the number of records.");
        PageBail x = Look.laid("1 2 | 3 4 5 6");
        check.due("records()", 6, x.records());
        Look.forfeit(x, 1, 2);
        check.due("records(), forfeited ones too", 6, x.records());
        x.pass(15);
        check.due("records(), two kept", 4, x.records());
        x.payBack(4);
        check.due("records(), one paid back", 3, x.records());
        x.amnesty(4, 0);
        check.due("records(), one under an amnesty", 2, x.records());
        Look.payBack(x, 5, 6);
        check.due("records(), all gone", 0, x.records());
        check.due("records() of 80", 80, Look.full().records());
    }

    private static void promise8Sum() {
        check.holds("Promise 8", "`number`: 0 to 999");
        PageBail x = Look.with(0, 500, 999);
        check.due("sum(0)", 1, x.sum(0));
        check.due("sum(999)", 1000, x.sum(999));
        for (int number : Look.outside(0, 999)) {
            check.illegalArgument("sum(" + number + ")", () -> Look.with(0, 1, 999),
                    y -> y.sum(number));
        }
    }

    private static void promise8ZeroIfNone() {
        check.holds("Promise 8", "Returns the sum of the record of a case; 0 if there is none.");
        check.due("sum(0) without records", 0, new PageBail().sum(0));
        PageBail x = Look.with(1, 500, 998);
        for (int number : new int[] {0, 2, 499, 501, 997, 999}) {
            check.due("sum(" + number + ")", 0, x.sum(number));
        }
        x.forfeit(500);
        check.due("sum(500), forfeited", 501, x.sum(500));
        x.pass(15);
        check.due("sum(500), kept", 0, x.sum(500));
        x.payBack(998);
        check.due("sum(998), paid back", 0, x.sum(998));
    }

    private static void promise9IsForfeited() {
        check.holds("Promise 9", "`number`: 0 to 999");
        PageBail x = Look.with(0, 500, 999);
        x.forfeit(999);
        check.due("isForfeited(0)", false, x.isForfeited(0));
        check.due("isForfeited(999)", true, x.isForfeited(999));
        for (int number : Look.outside(0, 999)) {
            check.illegalArgument("isForfeited(" + number + ")", () -> Look.with(0, 1, 999),
                    y -> y.isForfeited(number));
        }
    }

    private static void promise9FalseIfNone() {
        check.holds("Promise 9", "false if there is none");
        check.due("isForfeited(0) without records", false, new PageBail().isForfeited(0));
        PageBail x = Look.with(1, 500, 998);
        Look.forfeit(x, 1, 500, 998);
        for (int number : new int[] {0, 2, 499, 501, 997, 999}) {
            check.due("isForfeited(" + number + ")", false, x.isForfeited(number));
        }
        x.pass(14);
        check.due("isForfeited(500) on the last day", true, x.isForfeited(500));
        x.pass(1);
        check.due("isForfeited(500), kept", false, x.isForfeited(500));
        Look.put(x, 500);
        check.due("isForfeited(500), put again", false, x.isForfeited(500));
    }

    private static void promise10Surety() {
        check.holds("Promise 10", "`surety`: 0 to 9");
        PageBail x = Look.with(0, 9, 5);
        check.due("heldBy(0)", 1, x.heldBy(0));
        check.due("heldBy(9)", 10, x.heldBy(9));
        for (int surety : Look.outside(0, 9)) {
            check.illegalArgument("heldBy(" + surety + ")", () -> Look.with(0, 1, 9),
                    y -> y.heldBy(surety));
        }
    }

    private static void promise10AllRecordsOfASurety() {
        check.holds("Promise 10", "Returns the sums of all records of a surety.");
        check.due("heldBy(0) without records", 0, new PageBail().heldBy(0));
        PageBail x = Look.with(3, 13, 23, 999, 4);
        check.due("heldBy(3)", 4 + 14 + 24, x.heldBy(3));
        check.due("heldBy(5) of none", 0, x.heldBy(5));
        x.forfeit(13);
        check.due("heldBy(3), a forfeited one too", 42, x.heldBy(3));
        x.payBack(3);
        check.due("heldBy(3), one paid back", 38, x.heldBy(3));
        x.pass(15);
        check.due("heldBy(3), one kept", 24, x.heldBy(3));
        x.amnesty(10000, 0);
        check.due("heldBy(3), all under an amnesty", 0, x.heldBy(3));
        PageBail y = new PageBail();
        for (int number = 0; number < 80; number++) {
            y.put(number, 10000, 9);
        }
        check.due("heldBy(9), all of 80 and the greatest sums", 800000, y.heldBy(9));
        check.due("heldBy(8)", 0, y.heldBy(8));
    }

    private static void promise11Kept() {
        check.holds("Promise 11", "Returns all that was kept.");
        PageBail x = Look.with(1, 2, 3);
        x.payBack(3);
        check.due("kept(), one paid back", 0, x.kept());
        Look.forfeit(x, 1);
        x.pass(15);
        check.due("kept(), one kept", 2, x.kept());
        Look.forfeit(x, 2);
        x.pass(15);
        check.due("kept(), another kept", 5, x.kept());
        x.pass(100);
        check.due("kept() later", 5, x.kept());
        check.due("kept() of 80 and the greatest sums", 800000, allKept().kept());
    }

    private static PageBail allKept() {
        PageBail x = Look.full();
        for (int i = 0; i < 80; i++) {
            x.forfeit(i * 10);
        }
        x.pass(15);
        return x;
    }

    private static void promise12PaidBack() {
        check.holds("Promise 12", "Returns all that was paid back.");
        PageBail x = Look.with(1, 2, 3, 4);
        x.payBack(1);
        check.due("paidBack(), one paid back", 2, x.paidBack());
        x.forfeit(2);
        x.pass(15);
        check.due("paidBack(), one kept", 2, x.paidBack());
        x.payBack(3);
        check.due("paidBack(), another paid back", 6, x.paidBack());
        x.amnesty(10000, 0);
        check.due("paidBack(), one under an amnesty", 11, x.paidBack());
        PageBail y = Look.full();
        y.amnesty(10000, 0);
        check.due("paidBack() of 80 and the greatest sums", 800000, y.paidBack());
        check.due("paidBack() of 80 that were kept", 0, allKept().paidBack());
    }

    private static void promise13Days() {
        check.holds("Promise 13", "`days`: 1 to 100");
        for (int days : new int[] {1, 2, 99, 100}) {
            PageBail x = Look.with(1);
            check.due("pass(" + days + ")", 0, x.pass(days));
            check.due("today()", days, x.today());
        }
        for (int days : Look.outside(1, 100)) {
            check.illegalArgument("pass(" + days + ")", RecordsTest::onDay3, x -> x.pass(days));
        }
    }

    private static void promise13ReturnsHowMany() {
        check.holds("Promise 13", "Returns how many records are taken out by that.");
        check.due("pass(100) without records", 0, new PageBail().pass(100));
        check.due("pass(100), none forfeited", 0, Look.full().pass(100));
        PageBail x = Look.laid("1 2 | 3 4 5");
        x.forfeit(1);
        x.pass(1);
        Look.forfeit(x, 3, 5);
        check.due("pass(14) over one term", 1, x.pass(14));
        check.due("pass(100) over two more", 2, x.pass(100));
        PageBail y = Look.full();
        for (int i = 0; i < 80; i++) {
            y.forfeit(i * 10);
        }
        check.due("pass(15) over 80", 80, y.pass(15));
        check.due("pages()", 0, y.pages());
    }

    private static PageBail onDay(int day) {
        PageBail x = Look.with(1, 2, 3);
        for (int left = day; left > 0; left -= 100) {
            x.pass(Math.min(left, 100));
        }
        return x;
    }

    private static void promise13NotAbove5000() {
        check.holds("Promise 13", "Throws `IllegalStateException` if today would be above 5000");
        for (int days : new int[] {1, 2, 99, 100}) {
            PageBail x = onDay(5000 - days);
            check.due("pass(" + days + ") to the day 5000", 0, x.pass(days));
            check.due("today()", 5000, x.today());
        }
        check.illegalState("pass(100) to the day 5001", () -> onDay(4901), x -> x.pass(100));
        check.illegalState("pass(2) to the day 5001", () -> onDay(4999), x -> x.pass(2));
        check.illegalState("pass(1) to the day 5001", () -> onDay(5000), x -> x.pass(1));
        check.illegalState("pass(100) to the day 5100", () -> onDay(5000), x -> x.pass(100));
        check.illegalArgument("pass(0) on the day 5000", () -> onDay(5000), x -> x.pass(0));
    }

    private static void promise14Today() {
        check.holds("Promise 14", "Returns today.");
        PageBail x = Look.with(1);
        check.due("today() at first", 0, x.today());
        x.pass(1);
        check.due("today()", 1, x.today());
        x.pass(100);
        check.due("today()", 101, x.today());
        Check.thrownBy(() -> x.pass(101));
        check.due("today() behind a refused pass", 101, x.today());
        check.due("today() at last", 5000, onDay(5000).today());
    }
}

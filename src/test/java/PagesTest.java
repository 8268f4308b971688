/** Promises 15 to 18: pages, size, at, pageOf. */
public final class PagesTest {
    private static final Check check = new Check("PagesTest");

    public static void main(String[] args) {
        check.run(
                PagesTest::promise15Pages,
                PagesTest::promise16Size,
                PagesTest::promise16NoSuchPage,
                PagesTest::promise17At,
                PagesTest::promise17NoSuchPage,
                PagesTest::promise17NoSuchPlace,
                PagesTest::promise18Number,
                PagesTest::promise18NoneIfThereIsNone);
    }

    /** Three pages: one of three records, one of two, a full one. */
    private static PageBail threePages() {
        return Look.laid("0 10 20 | 30 40 | 50 60 70 80");
    }

    private static void promise15Pages() {
        check.holds("Promise 15", "Returns the number of pages.");
        PageBail x = new PageBail();
        check.due("pages() of none", 0, x.pages());
        Look.put(x, 1);
        check.due("pages() of one", 1, x.pages());
        Look.put(x, 2, 3, 4);
        check.due("pages() of one that is full", 1, x.pages());
        Look.put(x, 5);
        check.due("pages() behind a split", 2, x.pages());
        Look.payBack(x, 1, 2);
        check.due("pages() behind a joining", 1, x.pages());
        check.due("pages() of three", 3, threePages().pages());
        check.due("pages() of 80 records", 39, Look.full().pages());
    }

    private static void promise16Size() {
        check.holds("Promise 16", "Returns the number of records of a page.");
        PageBail x = threePages();
        check.due("size(0)", 3, x.size(0));
        check.due("size(1)", 2, x.size(1));
        check.due("size(2)", 4, x.size(2));
        check.due("size(0) of one record", 1, Look.with(999).size(0));
        PageBail y = Look.full();
        check.due("size(0) of 80 records", 2, y.size(0));
        check.due("size(38) of 80 records, the last page", 4, y.size(38));
    }

    private static void promise16NoSuchPage() {
        check.holds("Promise 16", "Throws `IndexOutOfBoundsException` if there is no such page");
        check.outOfBounds("size(0) without pages", PageBail::new, x -> x.size(0));
        check.outOfBounds("size(0) without pages again", PagesTest::withoutPagesAgain,
                x -> x.size(0));
        for (int page : Look.outside(0, 2)) {
            check.outOfBounds("size(" + page + ") of three", PagesTest::threePages,
                    x -> x.size(page));
        }
        for (int page : new int[] {39, 79, 80}) {
            check.outOfBounds("size(" + page + ") of 39", Look::full, x -> x.size(page));
        }
    }

    private static PageBail withoutPagesAgain() {
        PageBail x = Look.with(1);
        x.payBack(1);
        return x;
    }

    private static void promise17At() {
        check.holds("Promise 17", "Returns the case of a record of a page.");
        PageBail x = threePages();
        check.due("at(0, 0)", 0, x.at(0, 0));
        check.due("at(0, 2)", 20, x.at(0, 2));
        check.due("at(1, 0)", 30, x.at(1, 0));
        check.due("at(1, 1)", 40, x.at(1, 1));
        check.due("at(2, 0)", 50, x.at(2, 0));
        check.due("at(2, 3)", 80, x.at(2, 3));
        check.due("at(0, 0) of the greatest case", 999, Look.with(999).at(0, 0));
        check.due("at(38, 3) of 80 records", 790, Look.full().at(38, 3));
    }

    private static void promise17NoSuchPage() {
        check.holds("Promise 17", "Throws `IndexOutOfBoundsException` if there is no such page");
        check.outOfBounds("at(0, 0) without pages", PageBail::new, x -> x.at(0, 0));
        check.outOfBounds("at(0, 0) without pages again", PagesTest::withoutPagesAgain,
                x -> x.at(0, 0));
        for (int page : Look.outside(0, 2)) {
            check.outOfBounds("at(" + page + ", 0)", PagesTest::threePages, x -> x.at(page, 0));
        }
        check.outOfBounds("at(3, -1), nor such a place", PagesTest::threePages, x -> x.at(3, -1));
        check.outOfBounds("at(39, 0) of 39", Look::full, x -> x.at(39, 0));
    }

    private static void promise17NoSuchPlace() {
        check.holds("Promise 17", "or place on it");
        int[] sizes = {3, 2, 4};
        for (int page = 0; page < sizes.length; page++) {
            int there = page;
            for (int place : Look.outside(0, sizes[page] - 1)) {
                check.outOfBounds("at(" + page + ", " + place + ")", PagesTest::threePages,
                        x -> x.at(there, place));
            }
        }
        check.outOfBounds("at(0, 1) of one record", () -> Look.with(7), x -> x.at(0, 1));
        check.outOfBounds("at(38, 4) of 80 records", Look::full, x -> x.at(38, 4));
    }

    private static void promise18Number() {
        check.holds("Promise 18", "`number`: 0 to 999");
        PageBail x = Look.with(0, 10, 20, 30, 999);
        check.due("pageOf(0)", 0, x.pageOf(0));
        check.due("pageOf(10)", 0, x.pageOf(10));
        check.due("pageOf(20)", 1, x.pageOf(20));
        check.due("pageOf(999)", 1, x.pageOf(999));
        for (int number : Look.outside(0, 999)) {
            check.illegalArgument("pageOf(" + number + ")", () -> Look.with(0, 1, 999),
                    y -> y.pageOf(number));
        }
    }

    private static void promise18NoneIfThereIsNone() {
        check.holds("Promise 18", "NONE if there is none");
        check.due("pageOf(0) without records", PageBail.NONE, new PageBail().pageOf(0));
        PageBail x = threePages();
        for (int number : new int[] {1, 19, 21, 29, 31, 79, 81, 999}) {
            check.due("pageOf(" + number + ")", PageBail.NONE, x.pageOf(number));
        }
        x.payBack(60);
        check.due("pageOf(60), paid back", PageBail.NONE, x.pageOf(60));
        x.forfeit(10);
        check.due("pageOf(10), forfeited", 0, x.pageOf(10));
        x.pass(15);
        check.due("pageOf(10), kept", PageBail.NONE, x.pageOf(10));
    }
}

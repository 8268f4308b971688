/** Promises 15 to 18: pages, size, at, pageOf. */
public final class PagesTest {
    private static final int[] FAR = {-1, -2, Integer.MIN_VALUE, Integer.MAX_VALUE};

    private static final Check check = new Check("PagesTest");

    public static void main(String[] args) {
        promise15Pages();
        promise16Size();
        promise17At();
        promise18PageOf();
        check.end();
    }

    /** Pages "0 10 20 | 30 40 | 50 60 70 999". */
    private static PageBail threePages() {
        return Look.with(0, 20, 30, 40, 50, 60, 70, 10, 999);
    }

    private static void promise15Pages() {
        PageBail x = new PageBail();
        check.due("pages() of none", 0, x.pages());
        Look.put(x, 1, 2, 3, 4);
        check.due("pages() of one that is full", 1, x.pages());
        x.put(5, 1, 0);
        check.due("pages() behind a split", 2, x.pages());
        Look.payBack(x, 1, 2);
        check.due("pages() behind a joining", 1, x.pages());
        check.due("pages() of three", 3, threePages().pages());
    }

    private static void promise16Size() {
        PageBail x = threePages();
        check.due("size(0)", 3, x.size(0));
        check.due("size(1)", 2, x.size(1));
        check.due("size(2)", 4, x.size(2));
        check.outOfBounds("size(3)", x, () -> x.size(3));
        check.outOfBounds("size(80)", x, () -> x.size(80));
        for (int page : FAR) {
            check.outOfBounds("size(" + page + ")", x, () -> x.size(page));
        }
        PageBail none = new PageBail();
        check.outOfBounds("size(0) without pages", none, () -> none.size(0));
        none.put(1, 1, 1);
        check.due("size(0)", 1, none.size(0));
        none.payBack(1);
        check.outOfBounds("size(0) without pages again", none, () -> none.size(0));
    }

    private static void promise17At() {
        PageBail x = threePages();
        check.due("at(0, 0)", 0, x.at(0, 0));
        check.due("at(0, 2)", 20, x.at(0, 2));
        check.due("at(1, 0)", 30, x.at(1, 0));
        check.due("at(1, 1)", 40, x.at(1, 1));
        check.due("at(2, 3)", 999, x.at(2, 3));
        check.outOfBounds("at(0, 3)", x, () -> x.at(0, 3));
        check.outOfBounds("at(1, 2)", x, () -> x.at(1, 2));
        check.outOfBounds("at(2, 4)", x, () -> x.at(2, 4));
        check.outOfBounds("at(3, 0)", x, () -> x.at(3, 0));
        for (int far : FAR) {
            check.outOfBounds("at(" + far + ", 0)", x, () -> x.at(far, 0));
            check.outOfBounds("at(1, " + far + ")", x, () -> x.at(1, far));
        }
        PageBail none = new PageBail();
        check.outOfBounds("at(0, 0) without pages", none, () -> none.at(0, 0));
    }

    private static void promise18PageOf() {
        PageBail x = threePages();
        check.due("pageOf(0)", 0, x.pageOf(0));
        check.due("pageOf(20)", 0, x.pageOf(20));
        check.due("pageOf(30)", 1, x.pageOf(30));
        check.due("pageOf(40)", 1, x.pageOf(40));
        check.due("pageOf(50)", 2, x.pageOf(50));
        check.due("pageOf(999)", 2, x.pageOf(999));
        for (int number : new int[] {1, 25, 45, 998}) {
            check.due("pageOf(" + number + ")", PageBail.NONE, x.pageOf(number));
        }
        for (int number : new int[] {-1, 1000, Integer.MIN_VALUE, Integer.MAX_VALUE}) {
            check.illegalArgument("pageOf(" + number + ")", x, () -> x.pageOf(number));
        }
        x.payBack(0);
        check.due("pageOf(0), paid back", PageBail.NONE, x.pageOf(0));
        check.due("pageOf(0) of a new object", PageBail.NONE, new PageBail().pageOf(0));
    }
}

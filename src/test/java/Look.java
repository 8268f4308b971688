/**
 * Looks at an object without changing it. Every look is calls, and an object has 512 of them: keep
 * the objects that are looked at small.
 */
final class Look {
    private Look() {
    }

    /** Pages and the cases on them, such as "10 20 | 30 40 50". */
    static String pages(PageBail x) {
        StringBuilder text = new StringBuilder();
        for (int page = 0; page < x.pages(); page++) {
            text.append(page == 0 ? "" : " |");
            int size = x.size(page);
            for (int place = 0; place < size; place++) {
                text.append(page == 0 && place == 0 ? "" : " ").append(x.at(page, place));
            }
        }
        return text.toString();
    }

    /** All but the readers and the days of the records. */
    static String whole(PageBail x) {
        StringBuilder text = new StringBuilder();
        int pages = x.pages();
        for (int page = 0; page < pages; page++) {
            text.append("page:");
            int size = x.size(page);
            for (int place = 0; place < size; place++) {
                int number = x.at(page, place);
                text.append(' ').append(number).append(" of ").append(x.sum(number));
                text.append(x.isForfeited(number) ? " forfeited" : "");
            }
            text.append('\n');
        }
        for (int surety = 0; surety <= 9; surety++) {
            text.append(x.heldBy(surety)).append(' ');
        }
        text.append("records ").append(x.records()).append(", kept ").append(x.kept());
        text.append(", paid back ").append(x.paidBack()).append(", today ").append(x.today());
        text.append(", sweeping ").append(x.sweeping());
        return text.toString();
    }

    /** A new object with these cases put; each has its case + 1 as its sum and surety case % 10. */
    static PageBail with(int... cases) {
        PageBail x = new PageBail();
        put(x, cases);
        return x;
    }

    static void put(PageBail x, int... cases) {
        for (int number : cases) {
            x.put(number, number + 1, number % 10);
        }
    }

    static void payBack(PageBail x, int... cases) {
        for (int number : cases) {
            x.payBack(number);
        }
    }
}

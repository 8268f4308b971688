import java.util.ArrayList;
import java.util.List;

/**
 * Makes objects and looks at them. Every look is calls, and an object has 512 of them: keep the
 * objects that are looked at small, or look once.
 */
final class Look {
    private Look() {
    }

    /** Pages and the cases on them, such as "10 20 | 30 40 50". */
    static String pages(PageBail x) {
        StringBuilder text = new StringBuilder();
        int pages = x.pages();
        for (int page = 0; page < pages; page++) {
            text.append(page == 0 ? "" : " |");
            int size = x.size(page);
            for (int place = 0; place < size; place++) {
                text.append(page == 0 && place == 0 ? "" : " ").append(x.at(page, place));
            }
        }
        return text.toString();
    }

    /** How many records each page has, such as "2 3". */
    static String sizes(PageBail x) {
        StringBuilder text = new StringBuilder();
        int pages = x.pages();
        for (int page = 0; page < pages; page++) {
            text.append(page == 0 ? "" : " ").append(x.size(page));
        }
        return text.toString();
    }

    /**
     * All that the object can tell. What no question asks for, the readers and the days, is told by
     * calls that change it, so this is the last look at an object.
     */
    static String all(PageBail x) {
        String pages = pages(x);
        StringBuilder text = new StringBuilder(pages);
        List<Integer> forfeited = new ArrayList<>();
        for (int number : casesOf(pages)) {
            text.append(", ").append(number).append(" of ").append(x.sum(number));
            if (x.isForfeited(number)) {
                forfeited.add(number);
            }
        }
        for (int surety = 0; surety <= 9; surety++) {
            text.append(", held by ").append(surety).append(": ").append(x.heldBy(surety));
        }
        text.append(", records ").append(x.records()).append(", kept ").append(x.kept());
        text.append(", paid back ").append(x.paidBack()).append(", today ").append(x.today());
        text.append(", sweeping ").append(x.sweeping());
        for (int reader = 0; reader <= 3; reader++) {
            text.append(", walk ").append(x.walk(reader));
        }
        for (int number : forfeited) {
            text.append(", undo ").append(number).append(": ").append(x.undo(number));
        }
        for (int day = 0; day <= 3 && day <= x.today(); day++) {
            text.append(", put to day ").append(day).append(": ").append(x.amnesty(10000, day));
        }
        return text.toString();
    }

    private static List<Integer> casesOf(String pages) {
        List<Integer> cases = new ArrayList<>();
        for (String word : pages.split("[ |]+")) {
            if (!word.isEmpty()) {
                cases.add(Integer.parseInt(word));
            }
        }
        return cases;
    }

    /** A new object with these cases put in this order. */
    static PageBail with(int... cases) {
        PageBail x = new PageBail();
        put(x, cases);
        return x;
    }

    /** Each record has its case + 1 as its sum and case % 10 as its surety. */
    static void put(PageBail x, int... cases) {
        for (int number : cases) {
            x.put(number, number + 1, number % 10);
        }
    }

    static void payBack(PageBail x, int... cases) {
        for (int number : cases) {
            x.payBack(number);
        }
    }

    /** An act answers something; the calls forfeit and sweep answer nothing. */
    static Object forfeit(PageBail x, int... cases) {
        for (int number : cases) {
            x.forfeit(number);
        }
        return "";
    }

    static Object sweep(PageBail x) {
        x.sweep();
        return "";
    }

    /**
     * An object with these pages, of two to four cases below 999 each, or one page. Two cases of
     * each page put by rising cases leave pages of two; the others go where they belong.
     */
    static PageBail laid(String pages) {
        PageBail x = new PageBail();
        String[] rows = pages.split(" \\| ");
        for (String row : rows) {
            putOf(x, row, 0, 2);
        }
        for (String row : rows) {
            putOf(x, row, 2, 4);
        }
        if (!pages(x).equals(pages)) {
            // The last two pages still are one; what splits it goes again, and paidBack is 1 then.
            x.put(999, 1, 9);
            x.payBack(999);
        }
        return asTold(x, pages);
    }

    private static void putOf(PageBail x, String row, int from, int to) {
        String[] cases = row.split(" ");
        for (int i = from; i < to && i < cases.length; i++) {
            put(x, Integer.parseInt(cases[i]));
        }
    }

    /** Pages that only steps leave, such as one record among other pages; the sweep goes on. */
    static PageBail swept(String pages, int steps, String then) {
        PageBail x = laid(pages);
        x.sweep();
        x.step(steps);
        return asTold(x, then);
    }

    private static PageBail asTold(PageBail x, String pages) {
        if (!pages(x).equals(pages)) {
            throw new IllegalStateException("laid " + pages(x) + " instead of " + pages);
        }
        return x;
    }

    /** 80 records, as many as there can be: 0, 10, 20 to 790, on 38 pages of two and one of four. */
    static PageBail full() {
        PageBail x = new PageBail();
        for (int i = 0; i < 80; i++) {
            x.put(i * 10, 10000, i % 10);
        }
        return x;
    }

    /** Values outside a range: beside it, at the ends of int, and one in it if cut to a short. */
    static int[] outside(int least, int most) {
        int inside = least + 1;
        return new int[] {least - 1, most + 1, Integer.MIN_VALUE, Integer.MAX_VALUE,
            Integer.MIN_VALUE + inside, -inside - 1, 256 * 256 + inside};
    }
}

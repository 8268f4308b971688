/**
 * A register of bail in a row of pages.
 *
 * <p>All records stand in one row by rising cases, and the pages stand in a row too, so it is enough
 * to keep how many records each page has: a record that goes to a neighbouring page stays where it
 * is in the row of records, and only two sizes change.
 */
public final class PageBail {
    /** There is none. */
    public static final int NONE = -1;

    private static final int GREATEST_CASE = 999;
    private static final int GREATEST_SUM = 10000;
    private static final int LAST_SURETY = 9;
    private static final int LAST_READER = 3;
    private static final int MOST_RECORDS = 80;
    private static final int MOST_ON_A_PAGE = 4;
    private static final int MOVED_BY_A_SPLIT = 2;
    private static final int LEAST_TO_BORROW_FROM = 3;
    private static final int DAYS_TO_UNDO = 14;
    private static final int MOST_DAYS_AT_ONCE = 100;
    private static final int MOST_STEPS_AT_ONCE = 100;
    private static final int LAST_DAY = 5000;

    private final BailRow bailRow;
    private final PageRow pageRow;
    private final int[] lastRead;
    private int now;
    private int keptInAll;
    private int paidInAll;
    private int sweptPage;

    public PageBail() {
        bailRow = new BailRow();
        pageRow = new PageRow();
        // NONE is below every case, so a reader there is ahead of all records.
        lastRead = new int[] {NONE, NONE, NONE, NONE};
        sweptPage = NONE;
    }

    // ---- records

    public int put(int number, int sum, int surety)
            throws IllegalArgumentException, IllegalStateException {
        requireCase(number);
        if (!isIn(sum, 1, GREATEST_SUM) || !isIn(surety, 0, LAST_SURETY)) {
            throw new IllegalArgumentException("sum or surety out of range");
        }
        if (bailRow.find(number) != null || bailRow.count() >= MOST_RECORDS) {
            throw new IllegalStateException("the case has a record, or the register is full");
        }
        int place = bailRow.countUpTo(number);
        if (pageRow.sizeOf(pageToPutOn(place)) >= MOST_ON_A_PAGE) {
            pageRow.split(pageToPutOn(place));
        }
        pageRow.addTo(pageToPutOn(place));
        bailRow.insert(place, new Bail(number, sum, surety, now));
        return pageRow.count();
    }

    public int payBack(int number) throws IllegalArgumentException, IllegalStateException {
        requireCase(number);
        Bail bail = bailRow.find(number);
        if (bail == null || bail.hasForfeitDay()) {
            throw new IllegalStateException("no record of the case, or it is forfeited");
        }
        paidInAll += bail.sum;
        takeOut(bailRow.placeOf(number));
        return bail.sum;
    }

    public void forfeit(int number) throws IllegalArgumentException, IllegalStateException {
        requireCase(number);
        Bail bail = bailRow.find(number);
        if (bail == null || bail.hasForfeitDay()) {
            throw new IllegalStateException("no record of the case, or it is forfeited");
        }
        bail.forfeitDay = now;
    }

    public int undo(int number) throws IllegalArgumentException, IllegalStateException {
        requireCase(number);
        Bail bail = bailRow.find(number);
        if (bail == null || !bail.hasForfeitDay()) {
            throw new IllegalStateException("no record of the case, or it is not forfeited");
        }
        int days = now - bail.forfeitDay;
        bail.forfeitDay = NONE;
        return days;
    }

    public int amnesty(int sum, int day) throws IllegalArgumentException {
        if (!isIn(sum, 1, GREATEST_SUM) || !isIn(day, 0, now)) {
            throw new IllegalArgumentException("sum or day out of range");
        }
        int taken = 0;
        int place = 0;
        // A record that is taken out brings the next one to its place, so the place stays.
        for (int left = bailRow.count(); left > 0; left--) {
            Bail bail = bailRow.bailAt(place);
            if (bail != null && bail.isUnder(sum, day)) {
                paidInAll += bail.sum;
                takeOut(place);
                taken++;
            } else {
                place++;
            }
        }
        return taken;
    }

    public int records() {
        return bailRow.count();
    }

    public int sum(int number) throws IllegalArgumentException {
        requireCase(number);
        Bail bail = bailRow.find(number);
        return bail == null ? 0 : bail.sum;
    }

    public boolean isForfeited(int number) throws IllegalArgumentException {
        requireCase(number);
        Bail bail = bailRow.find(number);
        return bail != null && bail.hasForfeitDay();
    }

    public int heldBy(int surety) throws IllegalArgumentException {
        if (!isIn(surety, 0, LAST_SURETY)) {
            throw new IllegalArgumentException("surety out of range");
        }
        return bailRow.sumOfSurety(surety);
    }

    public int kept() {
        return keptInAll;
    }

    public int paidBack() {
        return paidInAll;
    }

    public int pass(int days) throws IllegalArgumentException, IllegalStateException {
        if (!isIn(days, 1, MOST_DAYS_AT_ONCE)) {
            throw new IllegalArgumentException("days out of range");
        }
        if (now + days > LAST_DAY) {
            throw new IllegalStateException("today would be above the last day");
        }
        int taken = 0;
        // Day by day, as the pages depend on the order in which records are taken.
        for (int i = 0; i < days; i++) {
            now++;
            taken += keepOverdue();
        }
        return taken;
    }

    public int today() {
        return now;
    }

    // ---- pages

    public int pages() {
        return pageRow.count();
    }

    public int size(int page) throws IndexOutOfBoundsException {
        if (!pageRow.has(page)) {
            throw new IndexOutOfBoundsException("no such page");
        }
        return pageRow.sizeOf(page);
    }

    public int at(int page, int place) throws IndexOutOfBoundsException {
        if (!pageRow.has(page) || !isIn(place, 0, pageRow.sizeOf(page) - 1)) {
            throw new IndexOutOfBoundsException("no such page, or no such place on it");
        }
        return bailRow.numberAt(pageRow.beginOf(page) + place);
    }

    public int pageOf(int number) throws IllegalArgumentException {
        requireCase(number);
        return pageRow.pageWith(bailRow.placeOf(number));
    }

    // ---- sweeps and walks

    public void sweep() throws IllegalStateException {
        if (sweptPage != NONE) {
            throw new IllegalStateException("a sweep goes on");
        }
        sweptPage = 0;
    }

    public int step(int steps) throws IllegalArgumentException, IllegalStateException {
        if (!isIn(steps, 1, MOST_STEPS_AT_ONCE)) {
            throw new IllegalArgumentException("steps out of range");
        }
        if (sweptPage == NONE) {
            throw new IllegalStateException("no sweep goes on");
        }
        int moved = 0;
        for (int i = 0; i < steps && sweptPage != NONE; i++) {
            moved += sweepOn();
        }
        return moved;
    }

    public int sweeping() {
        return sweptPage;
    }

    public int walk(int reader) throws IllegalArgumentException {
        if (!isIn(reader, 0, LAST_READER)) {
            throw new IllegalArgumentException("reader out of range");
        }
        // Behind the last record numberAt answers NONE, which puts the reader ahead of all again.
        lastRead[reader] = bailRow.numberAt(bailRow.countUpTo(lastRead[reader]));
        return lastRead[reader];
    }

    // ---- what the calls share

    private static boolean isIn(int value, int least, int most) {
        return value >= least && value <= most;
    }

    private static void requireCase(int number) {
        if (!isIn(number, 0, GREATEST_CASE)) {
            throw new IllegalArgumentException("case out of range");
        }
    }

    /**
     * The last page whose first case is lower is the one that holds the record ahead of the new
     * one's place; if no record is ahead, it is the first page.
     */
    private int pageToPutOn(int place) {
        return pageRow.pageWith(Math.max(place - 1, 0));
    }

    private void takeOut(int place) {
        pageRow.takeFrom(pageRow.pageWith(place));
        bailRow.remove(place);
        if (sweptPage >= pageRow.count()) {
            sweptPage = NONE;
        }
    }

    private int keepOverdue() {
        int taken = 0;
        int place = 0;
        for (int left = bailRow.count(); left > 0; left--) {
            Bail bail = bailRow.bailAt(place);
            if (bail != null && bail.isOverdue(now)) {
                keptInAll += bail.sum;
                takeOut(place);
                taken++;
            } else {
                place++;
            }
        }
        return taken;
    }

    /** One step of the sweep; answers how many records it moved. */
    private int sweepOn() {
        if (!pageRow.has(sweptPage + 1)) {
            sweptPage = NONE;
            return 0;
        }
        if (pageRow.sizeOf(sweptPage) >= MOST_ON_A_PAGE) {
            sweptPage++;
            return 0;
        }
        pageRow.move(sweptPage + 1, sweptPage);
        return 1;
    }

    private static final class Bail {
        final int number;
        final int sum;
        final int surety;
        final int putDay;
        int forfeitDay;

        Bail(int number, int sum, int surety, int putDay) {
            this.number = number;
            this.sum = sum;
            this.surety = surety;
            this.putDay = putDay;
            this.forfeitDay = NONE;
        }

        boolean hasForfeitDay() {
            return forfeitDay != NONE;
        }

        boolean isOverdue(int today) {
            return hasForfeitDay() && today > forfeitDay + DAYS_TO_UNDO;
        }

        boolean isUnder(int greatestSum, int latestDay) {
            return !hasForfeitDay() && sum <= greatestSum && putDay <= latestDay;
        }
    }

    /** All records by rising cases, whatever pages they stand on. */
    private static final class BailRow {
        private final Bail[] bails = new Bail[MOST_RECORDS];
        private int count;

        int count() {
            return count;
        }

        Bail bailAt(int place) {
            return place >= 0 && place < count && place < bails.length ? bails[place] : null;
        }

        int numberAt(int place) {
            Bail bail = bailAt(place);
            return bail == null ? NONE : bail.number;
        }

        /** How many records have this case or a lower one. */
        int countUpTo(int number) {
            int place = 0;
            while (place < count && numberAt(place) <= number) {
                place++;
            }
            return place;
        }

        int placeOf(int number) {
            int place = countUpTo(number) - 1;
            return place >= 0 && numberAt(place) == number ? place : NONE;
        }

        Bail find(int number) {
            return bailAt(placeOf(number));
        }

        int sumOfSurety(int surety) {
            int held = 0;
            for (int place = 0; place < count; place++) {
                Bail bail = bailAt(place);
                if (bail != null && bail.surety == surety) {
                    held += bail.sum;
                }
            }
            return held;
        }

        void insert(int place, Bail bail) {
            if (place < 0 || place > count || count >= bails.length) {
                return;
            }
            for (int i = count; i > place; i--) {
                bails[i] = bails[i - 1];
            }
            bails[place] = bail;
            count++;
        }

        void remove(int place) {
            if (bailAt(place) == null) {
                return;
            }
            count--;
            for (int i = place; i < count; i++) {
                bails[i] = bails[i + 1];
            }
            bails[count] = null;
        }
    }

    /** How many records each page has; a place is one in the row of all records. */
    private static final class PageRow {
        private final int[] sizes = new int[MOST_RECORDS];
        private int count;

        int count() {
            return count;
        }

        boolean has(int page) {
            return page >= 0 && page < count && page < sizes.length;
        }

        int sizeOf(int page) {
            return has(page) ? sizes[page] : 0;
        }

        int beginOf(int page) {
            int place = 0;
            for (int i = 0; i < page && i < count; i++) {
                place += sizeOf(i);
            }
            return place;
        }

        int pageWith(int place) {
            int end = 0;
            for (int page = 0; page < count; page++) {
                end += sizeOf(page);
                if (place >= 0 && place < end) {
                    return page;
                }
            }
            return NONE;
        }

        /** Adds a record to a page; without pages a new one is made for it. */
        void addTo(int page) {
            if (count == 0) {
                sizes[0] = 1;
                count = 1;
            } else if (has(page)) {
                sizes[page]++;
            }
        }

        void split(int page) {
            if (!has(page) || count >= sizes.length) {
                return;
            }
            for (int i = count; i > page + 1; i--) {
                sizes[i] = sizes[i - 1];
            }
            sizes[page + 1] = MOVED_BY_A_SPLIT;
            sizes[page] -= MOVED_BY_A_SPLIT;
            count++;
        }

        void takeFrom(int page) {
            if (!has(page)) {
                return;
            }
            sizes[page]--;
            if (sizes[page] == 0) {
                remove(page);
            } else if (sizes[page] == 1 && count > 1) {
                borrowOrJoin(page);
            }
        }

        /** Moves a record to the neighbouring page; a page without records then is gone. */
        void move(int from, int to) {
            if (!has(from) || !has(to)) {
                return;
            }
            sizes[from]--;
            sizes[to]++;
            if (sizes[from] == 0) {
                remove(from);
            }
        }

        private void borrowOrJoin(int page) {
            if (sizeOf(page + 1) >= LEAST_TO_BORROW_FROM) {
                move(page + 1, page);
            } else if (sizeOf(page - 1) >= LEAST_TO_BORROW_FROM) {
                move(page - 1, page);
            } else if (has(page + 1)) {
                move(page, page + 1);
            } else {
                move(page, page - 1);
            }
        }

        private void remove(int page) {
            if (!has(page)) {
                return;
            }
            count--;
            for (int i = page; i < count; i++) {
                sizes[i] = sizes[i + 1];
            }
        }
    }
}

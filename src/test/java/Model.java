import java.util.ArrayList;
import java.util.List;
import java.util.TreeMap;

/**
 * The document once more, in its own words: each page is a list of cases, and what a record has
 * stands in a map by case. It keeps its state otherwise than PageBail, so that a slip in the one
 * is not likely to be made in the other.
 */
final class Model {
    private static final class Record {
        int sum;
        int surety;
        int put;
        int forfeited = -1;
    }

    private final TreeMap<Integer, Record> records = new TreeMap<>();
    private final List<List<Integer>> pages = new ArrayList<>();
    private final int[] readers = {-1, -1, -1, -1};
    private int today;
    private int kept;
    private int paidBack;
    private int sweep = -1;

    private static void need(boolean inRange) {
        if (!inRange) {
            throw new IllegalArgumentException();
        }
    }

    private static void allow(boolean can) {
        if (!can) {
            throw new IllegalStateException();
        }
    }

    private static void exists(boolean there) {
        if (!there) {
            throw new IndexOutOfBoundsException();
        }
    }

    private static boolean isCase(int number) {
        return 0 <= number && number <= 999;
    }

    private Record record(int number) {
        need(isCase(number));
        return records.get(number);
    }

    int put(int number, int sum, int surety) {
        need(isCase(number));
        need(1 <= sum && sum <= 10000);
        need(0 <= surety && surety <= 9);
        allow(!records.containsKey(number));
        allow(records.size() < 80);
        Record record = new Record();
        record.sum = sum;
        record.surety = surety;
        record.put = today;
        records.put(number, record);
        List<Integer> page = pageFor(number);
        if (page.size() == 4) {
            List<Integer> behind = new ArrayList<>(page.subList(2, 4));
            page.subList(2, 4).clear();
            pages.add(indexOf(page) + 1, behind);
            page = pageFor(number);
        }
        page.add(number);
        page.sort(null);
        return pages.size();
    }

    private List<Integer> pageFor(int number) {
        if (pages.isEmpty()) {
            pages.add(new ArrayList<>());
        }
        for (int page = pages.size() - 1; page > 0; page--) {
            if (pages.get(page).get(0) < number) {
                return pages.get(page);
            }
        }
        return pages.get(0);
    }

    private int indexOf(List<Integer> wanted) {
        for (int page = 0; page < pages.size(); page++) {
            if (pages.get(page) == wanted) {
                return page;
            }
        }
        return -1;
    }

    private void take(int number) {
        int at = pageOf(number);
        List<Integer> page = pages.get(at);
        records.remove(number);
        page.remove(Integer.valueOf(number));
        List<Integer> next = at + 1 < pages.size() ? pages.get(at + 1) : null;
        List<Integer> ahead = at > 0 ? pages.get(at - 1) : null;
        if (page.isEmpty()) {
            pages.remove(at);
        } else if (page.size() == 1 && pages.size() > 1) {
            if (next != null && next.size() >= 3) {
                page.add(next.remove(0));
            } else if (ahead != null && ahead.size() >= 3) {
                page.add(0, ahead.remove(ahead.size() - 1));
            } else if (next != null) {
                next.add(0, page.get(0));
                pages.remove(at);
            } else {
                ahead.add(page.get(0));
                pages.remove(at);
            }
        }
        if (sweep >= pages.size()) {
            sweep = -1;
        }
    }

    int payBack(int number) {
        Record record = record(number);
        allow(record != null && record.forfeited < 0);
        take(number);
        paidBack += record.sum;
        return record.sum;
    }

    int forfeit(int number) {
        Record record = record(number);
        allow(record != null && record.forfeited < 0);
        record.forfeited = today;
        return 0;
    }

    int undo(int number) {
        Record record = record(number);
        allow(record != null && record.forfeited >= 0);
        int days = today - record.forfeited;
        record.forfeited = -1;
        return days;
    }

    int amnesty(int sum, int day) {
        need(1 <= sum && sum <= 10000);
        need(0 <= day && day <= today);
        int taken = 0;
        for (int number = 0; number <= 999; number++) {
            Record record = records.get(number);
            if (record != null && record.forfeited < 0 && record.sum <= sum && record.put <= day) {
                payBack(number);
                taken++;
            }
        }
        return taken;
    }

    int records() {
        return records.size();
    }

    int sum(int number) {
        Record record = record(number);
        return record == null ? 0 : record.sum;
    }

    int isForfeited(int number) {
        Record record = record(number);
        return record != null && record.forfeited >= 0 ? 1 : 0;
    }

    int heldBy(int surety) {
        need(0 <= surety && surety <= 9);
        int held = 0;
        for (Record record : records.values()) {
            held += record.surety == surety ? record.sum : 0;
        }
        return held;
    }

    int kept() {
        return kept;
    }

    int paidBack() {
        return paidBack;
    }

    int pass(int days) {
        need(1 <= days && days <= 100);
        allow(today + days <= 5000);
        int taken = 0;
        int last = today + days;
        while (today < last) {
            today++;
            for (int number : new ArrayList<>(records.keySet())) {
                Record record = records.get(number);
                if (record.forfeited >= 0 && record.forfeited + 15 == today) {
                    take(number);
                    kept += record.sum;
                    taken++;
                }
            }
        }
        return taken;
    }

    int today() {
        return today;
    }

    int pages() {
        return pages.size();
    }

    int size(int page) {
        exists(0 <= page && page < pages.size());
        return pages.get(page).size();
    }

    int at(int page, int place) {
        exists(0 <= page && page < pages.size());
        exists(0 <= place && place < pages.get(page).size());
        return pages.get(page).get(place);
    }

    int pageOf(int number) {
        need(isCase(number));
        for (int page = 0; page < pages.size(); page++) {
            if (pages.get(page).contains(number)) {
                return page;
            }
        }
        return -1;
    }

    int sweep() {
        allow(sweep < 0);
        sweep = 0;
        return 0;
    }

    int step(int steps) {
        need(1 <= steps && steps <= 100);
        allow(sweep >= 0);
        int moved = 0;
        for (int i = 0; i < steps && sweep >= 0; i++) {
            if (sweep + 1 >= pages.size()) {
                sweep = -1;
            } else if (pages.get(sweep).size() == 4) {
                sweep++;
            } else {
                pages.get(sweep).add(pages.get(sweep + 1).remove(0));
                moved++;
                if (pages.get(sweep + 1).isEmpty()) {
                    pages.remove(sweep + 1);
                }
            }
        }
        return moved;
    }

    int sweeping() {
        return sweep;
    }

    int walk(int reader) {
        need(0 <= reader && reader <= 3);
        Integer next = records.higherKey(readers[reader]);
        readers[reader] = next == null ? -1 : next;
        return readers[reader];
    }
}

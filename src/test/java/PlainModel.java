import java.util.ArrayList;
import java.util.List;
import java.util.SortedMap;
import java.util.TreeMap;

/**
 * The document once more, written apart from the program and without regard to room or speed. A call answers a text:
 * the number, "void", or the name of the exception.
 */
final class PlainModel {
    static final String UNKNOWN = "java.lang.IllegalArgumentException";
    static final String RANGE = "java.lang.IndexOutOfBoundsException";
    static final String STATE = "java.lang.IllegalStateException";
    static final String NO_ROOM = "java.lang.UnsupportedOperationException";
    static final String VOID = "void";

    /** A row that waits. */
    private record Fresh(int kind, List<Integer> bytes) {
        int size() {
            return 2 + bytes.size();
        }
    }

    /** Where an acknowledged row stands. */
    private record Stand(int sector, int at, int length) {}

    byte[][][] copies;
    int sectors;
    private boolean power;
    private int reserve;
    private final List<Fresh> fresh = new ArrayList<>();
    private final List<Stand> rows = new ArrayList<>();
    private final SortedMap<Integer, Boolean> second = new TreeMap<>();
    private boolean lineUp;
    private int used;
    private long state;
    private int stateNumber;
    private int fromCopyOne;
    private int repaired;
    private int[] cut;

    String format(int n) {
        if (n < 8 || n > 32) {
            return RANGE;
        }
        copies = new byte[2][n][512];
        sectors = n;
        power = true;
        reserve = 2;
        fresh.clear();
        rows.clear();
        second.clear();
        lineUp = true;
        used = 0;
        state = 0;
        stateNumber = 0;
        fromCopyOne = 0;
        repaired = 0;
        cut = null;
        return VOID;
    }

    String reserve(int held) {
        if (held < 0 || held > 8) {
            return RANGE;
        }
        if (!power) {
            return STATE;
        }
        reserve = held;
        return VOID;
    }

    String row(int kind, long bytes, int n) {
        if (kind < 0 || kind > 7) {
            return UNKNOWN;
        }
        if (n < 1 || n > 8) {
            return RANGE;
        }
        if (!power) {
            return STATE;
        }
        List<Integer> list = new ArrayList<>();
        for (int i = 0; i < n; i++) {
            list.add(0, (int) ((bytes >> (8 * i)) & 0xFF));
        }
        List<Fresh> all = new ArrayList<>(fresh);
        all.add(new Fresh(kind, list));
        int left = sectors - 2 - used - (kind > 3 ? reserve : 0);
        if (fresh.size() == 100 || packed(all).size() > left) {
            return NO_ROOM;
        }
        fresh.add(new Fresh(kind, list));
        return Integer.toString(rows.size() + fresh.size() - 1);
    }

    String sync() {
        if (!power) {
            return STATE;
        }
        List<Stand> stands = new ArrayList<>();
        int sector = used;
        for (List<Fresh> part : packed(fresh)) {
            List<Integer> data = new ArrayList<>();
            for (Fresh row : part) {
                stands.add(new Stand(sector, 6 + data.size(), row.bytes.size()));
                data.add(row.kind);
                data.add(row.bytes.size());
                data.addAll(row.bytes);
            }
            if (!written(sector, sector + 1, data)) {
                return "-1";
            }
            sector++;
        }
        used = sector;
        rows.addAll(stands);
        fresh.clear();
        return Integer.toString(rows.size());
    }

    String save(long wanted) {
        if (!power) {
            return STATE;
        }
        List<Integer> data = new ArrayList<>();
        for (int i = 7; i >= 0; i--) {
            data.add((int) ((wanted >> (8 * i)) & 0xFF));
        }
        int number = stateNumber + 1;
        if (!written(number % 2 == 0 ? sectors - 1 : sectors - 2, number, data)) {
            return "-1";
        }
        state = wanted;
        stateNumber = number;
        return Integer.toString(number);
    }

    String state() {
        return power ? Long.toString(state) : STATE;
    }

    String cut(int writes, int bytes) {
        if (writes < 0 || writes > 20 || bytes < 0 || bytes > 511) {
            return RANGE;
        }
        if (!power) {
            return STATE;
        }
        cut = new int[] {writes, bytes};
        return VOID;
    }

    String start() {
        if (copies == null) {
            return STATE;
        }
        power = true;
        cut = null;
        fresh.clear();
        rows.clear();
        used = 0;
        while (used < sectors - 2 && mended(used) >= 0) {
            byte[] b = copies[mended(used)][used];
            for (int at = 6; at < 6 + said(b); at += 2 + b[at + 1]) {
                rows.add(new Stand(used, at, b[at + 1]));
            }
            used++;
        }
        state = 0;
        stateNumber = 0;
        int odd = mended(sectors - 2);
        int even = mended(sectors - 1);
        if (odd >= 0) {
            takeState(copies[odd][sectors - 2]);
        }
        if (even >= 0 && (odd < 0 || intOf(copies[even][sectors - 1], 0) > stateNumber)) {
            takeState(copies[even][sectors - 1]);
        }
        second.tailMap(rows.size()).clear();
        return Integer.toString(rows.size());
    }

    String alter(int copy, int sector, int at, int mask) {
        if (copy < 0 || copy > 1 || sector < 0 || sector >= sectors || at < 0 || at > 511) {
            return UNKNOWN;
        }
        if (mask < 1 || mask > 255) {
            return RANGE;
        }
        copies[copy][sector][at] ^= (byte) mask;
        return VOID;
    }

    String read(int row, int i) {
        if (!power) {
            return STATE;
        }
        if (row < 0 || row >= rows.size()) {
            return UNKNOWN;
        }
        if (i < 0) {
            return RANGE;
        }
        List<Integer> found = readRow(rows.get(row));
        if (found == null) {
            return "-2";
        }
        return i + 1 < found.size() && i + 1 > 0 ? found.get(i + 1).toString() : "-1";
    }

    String kind(int row) {
        if (!power) {
            return STATE;
        }
        if (row < 0 || row >= rows.size()) {
            return UNKNOWN;
        }
        List<Integer> found = readRow(rows.get(row));
        return found == null ? "-2" : found.get(0).toString();
    }

    String extract(int from, int to) {
        if (!power) {
            return STATE;
        }
        if (!(0 <= from && from <= to && to <= rows.size())) {
            return RANGE;
        }
        List<Integer> all = new ArrayList<>();
        for (Stand row : rows.subList(from, to)) {
            List<Integer> found = readRow(row);
            if (found != null) {
                all.addAll(found);
            }
        }
        return Integer.toString(Sectors.sum(all.stream().mapToInt(Integer::intValue).toArray()));
    }

    String line(boolean up) {
        if (!power || lineUp == up) {
            return STATE;
        }
        lineUp = up;
        return VOID;
    }

    String send(int n) {
        if (n < 0 || n > 100) {
            return RANGE;
        }
        if (!power) {
            return STATE;
        }
        for (int i = 0; i < n && second.size() < rows.size(); i++) {
            second.put(second.size(), lineUp);
        }
        return Long.toString(there());
    }

    String gap(int i) {
        if (!power) {
            return STATE;
        }
        if (i < 0) {
            return RANGE;
        }
        StringBuilder text = new StringBuilder();
        second.values().forEach(is -> text.append(is ? '+' : '-'));
        List<String> gaps = new ArrayList<>();
        java.util.regex.Matcher runs = java.util.regex.Pattern.compile("-+").matcher(text);
        while (runs.find()) {
            gaps.add(Integer.toString(10000 * runs.start() + runs.end() - runs.start()));
        }
        return i < gaps.size() ? gaps.get(i) : "-1";
    }

    String fill(int n) {
        if (n < 0 || n > 100) {
            return RANGE;
        }
        if (!power || !lineUp) {
            return STATE;
        }
        List<Integer> missing = new ArrayList<>();
        second.forEach((row, is) -> {
            if (!is && missing.size() < n) {
                missing.add(row);
            }
        });
        missing.forEach(row -> second.put(row, true));
        return Integer.toString(missing.size());
    }

    String count(int what) {
        if (!power) {
            return STATE;
        }
        long[] counts = {rows.size(), fresh.size(), fromCopyOne, repaired, used, stateNumber, there(), second.size()};
        return what < 0 || what > 7 ? UNKNOWN : Long.toString(counts[what]);
    }

    int acknowledged() {
        return rows.size();
    }

    private long there() {
        return second.values().stream().filter(is -> is).count();
    }

    private static List<List<Fresh>> packed(List<Fresh> all) {
        List<List<Fresh>> parts = new ArrayList<>();
        int bytes = 0;
        for (Fresh row : all) {
            if (parts.isEmpty() || bytes + row.size() > 502) {
                parts.add(new ArrayList<>());
                bytes = 0;
            }
            parts.get(parts.size() - 1).add(row);
            bytes += row.size();
        }
        return parts;
    }

    private boolean written(int sector, int number, List<Integer> data) {
        byte[] whole = Sectors.of(number, data.stream().mapToInt(Integer::intValue).toArray());
        for (int copy = 0; copy < 2; copy++) {
            if (cut != null && cut[0] == 0) {
                System.arraycopy(whole, 0, copies[copy][sector], 0, cut[1]);
                power = false;
                return false;
            }
            if (cut != null) {
                cut[0]--;
            }
            copies[copy][sector] = whole.clone();
        }
        return true;
    }

    private int mended(int sector) {
        boolean[] right = {isRight(0, sector), isRight(1, sector)};
        for (int copy = 0; copy < 2; copy++) {
            if (right[copy] && !right[1 - copy]) {
                copies[1 - copy][sector] = copies[copy][sector].clone();
                repaired++;
            }
        }
        return right[0] ? 0 : right[1] ? 1 : -1;
    }

    private void takeState(byte[] b) {
        stateNumber = intOf(b, 0);
        state = ((long) intOf(b, 6) << 32) + (intOf(b, 10) & 0xFFFFFFFFL);
    }

    private List<Integer> readRow(Stand row) {
        int copy = isRight(0, row.sector) ? 0 : 1;
        if (!isRight(copy, row.sector)) {
            return null;
        }
        fromCopyOne += copy;
        byte[] b = copies[copy][row.sector];
        List<Integer> found = new ArrayList<>();
        found.add(b[row.at] & 0xFF);
        for (int i = 0; i < row.length; i++) {
            found.add(b[row.at + 2 + i] & 0xFF);
        }
        return found;
    }

    boolean isRight(int copy, int sector) {
        byte[] b = copies[copy][sector];
        int number = intOf(b, 0);
        if (intOf(b, 508) != Sectors.sum(b, 0, 508)) {
            return false;
        }
        if (sector >= sectors - 2) {
            return number != 0 && said(b) == 8;
        }
        return number == sector + 1 && said(b) > 0 && said(b) <= 502 && rowsEnd(b, 6, 6 + said(b));
    }

    private static boolean rowsEnd(byte[] b, int from, int to) {
        int at = from;
        while (at + 2 < to) {
            boolean row = b[at] >= 0 && b[at] <= 7 && b[at + 1] >= 1 && b[at + 1] <= 8;
            if (!row) {
                return false;
            }
            at += 2 + b[at + 1];
        }
        return at == to;
    }

    private static int said(byte[] b) {
        return (b[4] & 0xFF) * 256 + (b[5] & 0xFF);
    }

    private static int intOf(byte[] b, int at) {
        return java.nio.ByteBuffer.wrap(b).getInt(at);
    }
}

import java.util.Arrays;

/** The book of a rescue service on a disk of two copies; ../shared/DOC.md is its document. */
public final class ServiceDisk {
    private static final int COPIES = 2;
    private static final int FEWEST_SECTORS = 8;
    private static final int MOST_SECTORS = 32;
    private static final int STATE_SECTORS = 2;
    private static final int SECTOR_BYTES = 512;

    private static final int COUNT_AT = 4;
    private static final int DATA_AT = 6;
    private static final int DATA_BYTES = 502;
    private static final int SUM_AT = 508;
    private static final int STATE_BYTES = 8;
    private static final int SUM_FACTOR = 0x85EBCA6B;

    private static final int KINDS = 8;
    private static final int FIRST_REPORT_KIND = 4;
    private static final int ROW_HEAD = 2;
    private static final int MOST_ROW_BYTES = 8;
    private static final int MOST_ROWS_OF_SECTOR = DATA_BYTES / (ROW_HEAD + 1);
    private static final int MOST_ROWS = (MOST_SECTORS - STATE_SECTORS) * MOST_ROWS_OF_SECTOR;

    private static final int MOST_WAITING = 100;
    private static final int MOST_RESERVE = 8;
    private static final int FIRST_RESERVE = 2;
    private static final int MOST_CUT_WRITES = 20;
    private static final int MOST_SENT_AT_ONCE = 100;
    private static final int GAP_FACTOR = 10000;

    private static final int NONE = -1;
    private static final int WAS_CUT = -1;
    private static final int BEHIND_ROW = -1;
    private static final int LOST = -2;

    private final Disk disk;
    private final Draft draft;
    private final Waiting waiting;
    private final Places places;
    private final SecondRoom room;
    private boolean powered;
    private int reserved;
    private int usedSectors;
    private long latestState;
    private int latestNumber;
    private int secondCopyReads;
    private int repairs;

    public ServiceDisk() {
        disk = new Disk();
        draft = new Draft();
        waiting = new Waiting();
        places = new Places();
        room = new SecondRoom();
    }

    public void format(int n) throws IndexOutOfBoundsException {
        requireRange(n, FEWEST_SECTORS, MOST_SECTORS);
        disk.make(n);
        waiting.clear();
        places.clear();
        room.clear();
        powered = true;
        reserved = FIRST_RESERVE;
        usedSectors = 0;
        latestState = 0;
        latestNumber = 0;
        secondCopyReads = 0;
        repairs = 0;
    }

    public void reserve(int sectors) throws IndexOutOfBoundsException, IllegalStateException {
        requireRange(sectors, 0, MOST_RESERVE);
        requirePower();
        reserved = sectors;
    }

    public int row(int kind, long bytes, int n)
            throws IllegalArgumentException, IndexOutOfBoundsException, IllegalStateException,
                    UnsupportedOperationException {
        requireKnown(kind, KINDS);
        requireRange(n, 1, MOST_ROW_BYTES);
        requirePower();
        if (waiting.isFull() || waiting.sectorsWith(ROW_HEAD + n) > sectorsLeftFor(kind)) {
            throw new UnsupportedOperationException("no room for a new row");
        }
        int number = places.size() + waiting.size();
        waiting.add(kind, bytes, n);
        return number;
    }

    public int sync() throws IllegalStateException {
        requirePower();
        int next = 0;
        // every turn takes one row at least, so that there are never more turns than rows
        for (int turn = 0; turn < MOST_WAITING && next < waiting.size(); turn++) {
            next = draftRowsFrom(next);
            if (!writeDraft(usedSectors)) {
                return WAS_CUT;
            }
            usedSectors++;
        }
        waiting.clear();
        return places.size();
    }

    public int save(long state) throws IllegalStateException {
        requirePower();
        int number = latestNumber + 1;
        draft.open(number);
        draft.append(state, STATE_BYTES);
        draft.seal();
        if (!writeDraft(stateSectorOf(number))) {
            return WAS_CUT;
        }
        latestState = state;
        latestNumber = number;
        return number;
    }

    public long state() throws IllegalStateException {
        requirePower();
        return latestState;
    }

    public void cut(int writes, int bytes) throws IndexOutOfBoundsException, IllegalStateException {
        requireRange(writes, 0, MOST_CUT_WRITES);
        requireRange(bytes, 0, SECTOR_BYTES - 1);
        requirePower();
        disk.tellCut(writes, bytes);
    }

    public int start() throws IllegalStateException {
        if (!disk.isMade()) {
            throw new IllegalStateException("no disk");
        }
        // repairs write too, and a cut from before the start must not meet them
        disk.forgetCut();
        waiting.clear();
        findRows();
        findState();
        room.keepBelow(places.size());
        powered = true;
        return places.size();
    }

    public void alter(int copy, int sector, int at, int mask)
            throws IllegalArgumentException, IndexOutOfBoundsException, IllegalStateException {
        requireKnown(copy, COPIES);
        requireKnown(sector, disk.sectors());
        requireKnown(at, SECTOR_BYTES);
        requireRange(mask, 1, 255);
        disk.flip(copy, sector, at, mask);
    }

    public int read(int row, int i)
            throws IllegalArgumentException, IndexOutOfBoundsException, IllegalStateException {
        requirePower();
        requireKnown(row, places.size());
        if (i < 0) {
            throw new IndexOutOfBoundsException("a byte below 0");
        }
        int sector = places.sectorOf(row);
        int copy = disk.firstRightCopy(sector);
        if (copy == NONE) {
            return LOST;
        }
        noteReadFrom(copy);
        if (i >= places.lengthOf(row)) {
            return BEHIND_ROW;
        }
        return disk.byteAt(copy, sector, places.startOf(row) + ROW_HEAD + i);
    }

    public int kind(int row) throws IllegalArgumentException, IllegalStateException {
        requirePower();
        requireKnown(row, places.size());
        int sector = places.sectorOf(row);
        int copy = disk.firstRightCopy(sector);
        if (copy == NONE) {
            return LOST;
        }
        noteReadFrom(copy);
        return disk.byteAt(copy, sector, places.startOf(row));
    }

    public int extract(int from, int to) throws IndexOutOfBoundsException, IllegalStateException {
        requirePower();
        if (from < 0 || from > to || to > places.size()) {
            throw new IndexOutOfBoundsException("no such rows");
        }
        int sum = 0;
        int sector = NONE;
        int copy = NONE;
        for (int row = from; row < to; row++) {
            // rows stand in the order of sectors: one look at a sector serves all its rows
            if (places.sectorOf(row) != sector) {
                sector = places.sectorOf(row);
                copy = disk.firstRightCopy(sector);
            }
            if (copy != NONE) {
                noteReadFrom(copy);
                sum = sumWithRow(sum, row, copy);
            }
        }
        return sum;
    }

    public void line(boolean up) throws IllegalStateException {
        requirePower();
        if (room.isLineUp() == up) {
            throw new IllegalStateException("the line is so");
        }
        room.setLine(up);
    }

    public int send(int n) throws IndexOutOfBoundsException, IllegalStateException {
        requireRange(n, 0, MOST_SENT_AT_ONCE);
        requirePower();
        room.take(n, places.size());
        return room.present();
    }

    public int gap(int i) throws IndexOutOfBoundsException, IllegalStateException {
        requirePower();
        if (i < 0) {
            throw new IndexOutOfBoundsException("a gap below 0");
        }
        int first = room.firstOfGap(i);
        if (first == NONE) {
            return NONE;
        }
        return GAP_FACTOR * first + room.missingFrom(first);
    }

    public int fill(int n) throws IndexOutOfBoundsException, IllegalStateException {
        requireRange(n, 0, MOST_SENT_AT_ONCE);
        requirePower();
        if (!room.isLineUp()) {
            throw new IllegalStateException("the line is down");
        }
        return room.fillLowest(n);
    }

    public int count(int what) throws IllegalArgumentException, IllegalStateException {
        requirePower();
        switch (what) {
            case 0:
                return places.size();
            case 1:
                return waiting.size();
            case 2:
                return secondCopyReads;
            case 3:
                return repairs;
            case 4:
                return usedSectors;
            case 5:
                return latestNumber;
            case 6:
                return room.present();
            case 7:
                return room.sent();
            default:
                throw new IllegalArgumentException("no such count");
        }
    }

    private static void requireRange(int value, int least, int most) {
        if (value < least || value > most) {
            throw new IndexOutOfBoundsException("a number outside its range");
        }
    }

    private static void requireKnown(int number, int all) {
        if (number < 0 || number >= all) {
            throw new IllegalArgumentException("an unknown number");
        }
    }

    private void requirePower() {
        if (!powered) {
            throw new IllegalStateException("no power");
        }
    }

    private int sectorsLeftFor(int kind) {
        int left = disk.rowSectors() - usedSectors;
        return kind >= FIRST_REPORT_KIND ? left - reserved : left;
    }

    /** Drafts the next sector with waiting rows from one on; answers the first row that did not fit. */
    private int draftRowsFrom(int first) {
        draft.open(usedSectors + 1);
        int next = first;
        while (next < waiting.size() && draft.hasRoomFor(ROW_HEAD + waiting.lengthOf(next))) {
            int length = waiting.lengthOf(next);
            // a sync that is cut leaves places too many, but the start that must follow finds them anew
            places.add(usedSectors, draft.end(), length);
            draft.append(waiting.kindOf(next), 1);
            draft.append(length, 1);
            draft.append(waiting.bytesOf(next), length);
            next++;
        }
        draft.seal();
        return next;
    }

    private boolean writeDraft(int sector) {
        for (int copy = 0; copy < COPIES; copy++) {
            if (!disk.write(copy, sector, draft)) {
                powered = false;
                return false;
            }
        }
        return true;
    }

    private int stateSectorOf(int number) {
        boolean odd = (number & 1) != 0;
        return odd ? disk.rowSectors() : disk.rowSectors() + 1;
    }

    private void findRows() {
        places.clear();
        usedSectors = 0;
        for (int sector = 0; sector < disk.rowSectors(); sector++) {
            int copy = openSector(sector);
            if (copy == NONE) {
                return;
            }
            findRowsOf(copy, sector);
            usedSectors++;
        }
    }

    private void findRowsOf(int copy, int sector) {
        int end = DATA_AT + disk.dataBytesAt(copy, sector);
        int at = DATA_AT;
        for (int row = 0; row < MOST_ROWS_OF_SECTOR && at < end; row++) {
            int length = disk.byteAt(copy, sector, at + 1);
            places.add(sector, at, length);
            at += ROW_HEAD + length;
        }
    }

    private void findState() {
        boolean found = false;
        latestState = 0;
        latestNumber = 0;
        for (int sector = disk.rowSectors(); sector < disk.sectors(); sector++) {
            int copy = openSector(sector);
            if (copy == NONE) {
                continue;
            }
            int number = disk.numberAt(copy, sector);
            // a number may be below 0, so the first one found is not compared with 0
            if (!found || number > latestNumber) {
                found = true;
                latestNumber = number;
                latestState = disk.stateAt(copy, sector);
            }
        }
    }

    /** The copy that a start takes a sector from, with the other one repaired; NONE when none is right. */
    private int openSector(int sector) {
        boolean firstRight = disk.isRight(0, sector);
        boolean secondRight = disk.isRight(1, sector);
        if (!firstRight && !secondRight) {
            return NONE;
        }
        int copy = firstRight ? 0 : 1;
        if (firstRight != secondRight) {
            disk.copyOver(copy, sector);
            repairs++;
        }
        return copy;
    }

    private void noteReadFrom(int copy) {
        if (copy == 1) {
            secondCopyReads++;
        }
    }

    private int sumWithRow(int sum, int row, int copy) {
        int sector = places.sectorOf(row);
        int start = places.startOf(row);
        int length = places.lengthOf(row);
        int result = sumStep(sum, disk.byteAt(copy, sector, start));
        for (int i = 0; i < length; i++) {
            result = sumStep(result, disk.byteAt(copy, sector, start + ROW_HEAD + i));
        }
        return result;
    }

    private static int sumStep(int sum, int b) {
        int mixed = sum ^ b;
        return ((mixed << 5) | (mixed >>> 27)) * SUM_FACTOR;
    }

    private static int sumOf(byte[] bytes, int from) {
        int sum = 0;
        int end = Math.min(from + SUM_AT, bytes.length);
        for (int i = Math.max(from, 0); i < end; i++) {
            sum = sumStep(sum, bytes[i] & 255);
        }
        return sum;
    }

    /** A sector as it will be written: it is drafted whole, since a cut may tear it anywhere. */
    private static final class Draft {
        private final byte[] bytes;
        private int end;

        Draft() {
            bytes = new byte[SECTOR_BYTES];
        }

        void open(int number) {
            Arrays.fill(bytes, (byte) 0);
            put(0, number, COUNT_AT);
            end = DATA_AT;
        }

        int end() {
            return end;
        }

        boolean hasRoomFor(int size) {
            return end + size <= DATA_AT + DATA_BYTES;
        }

        void append(long value, int size) {
            if (hasRoomFor(size)) {
                put(end, value, size);
                end += size;
            }
        }

        void seal() {
            put(COUNT_AT, end - DATA_AT, DATA_AT - COUNT_AT);
            put(SUM_AT, sumOf(bytes, 0), SECTOR_BYTES - SUM_AT);
        }

        void copyTo(byte[] cells, int from, int count) {
            if (from >= 0 && count >= 0 && count <= SECTOR_BYTES && from <= cells.length - count) {
                System.arraycopy(bytes, 0, cells, from, count);
            }
        }

        private void put(int at, long value, int size) {
            for (int i = 0; i < size; i++) {
                int cell = at + i;
                if (cell >= 0 && cell < SECTOR_BYTES) {
                    bytes[cell] = (byte) (value >>> (8 * (size - 1 - i)));
                }
            }
        }
    }

    /** The two copies of all sectors, and the cut that waits for one of their writes. */
    private static final class Disk {
        private final byte[] cells;
        private int sectors;
        private boolean cutWaits;
        private int writesBeforeCut;
        private int bytesOfCut;

        Disk() {
            cells = new byte[COPIES * MOST_SECTORS * SECTOR_BYTES];
        }

        void make(int n) {
            Arrays.fill(cells, (byte) 0);
            sectors = n;
            cutWaits = false;
        }

        boolean isMade() {
            return sectors > 0;
        }

        int sectors() {
            return sectors;
        }

        int rowSectors() {
            return sectors - STATE_SECTORS;
        }

        void tellCut(int writes, int bytes) {
            cutWaits = true;
            writesBeforeCut = writes;
            bytesOfCut = bytes;
        }

        void forgetCut() {
            cutWaits = false;
        }

        /** Writes a draft to one copy; false when the cut that waited came with this write. */
        boolean write(int copy, int sector, Draft draft) {
            int from = firstCell(copy, sector);
            if (!cutWaits) {
                draft.copyTo(cells, from, SECTOR_BYTES);
                return true;
            }
            if (writesBeforeCut > 0) {
                writesBeforeCut--;
                draft.copyTo(cells, from, SECTOR_BYTES);
                return true;
            }
            draft.copyTo(cells, from, bytesOfCut);
            cutWaits = false;
            return false;
        }

        void copyOver(int from, int sector) {
            int source = firstCell(from, sector);
            int target = firstCell(1 - from, sector);
            int last = cells.length - SECTOR_BYTES;
            if (source >= 0 && source <= last && target >= 0 && target <= last) {
                System.arraycopy(cells, source, cells, target, SECTOR_BYTES);
            }
        }

        void flip(int copy, int sector, int at, int mask) {
            int cell = firstCell(copy, sector) + at;
            if (cell >= 0 && cell < cells.length) {
                cells[cell] = (byte) (cells[cell] ^ mask);
            }
        }

        int byteAt(int copy, int sector, int at) {
            return byteOf(firstCell(copy, sector) + at);
        }

        int numberAt(int copy, int sector) {
            return intOf(firstCell(copy, sector));
        }

        long stateAt(int copy, int sector) {
            int from = firstCell(copy, sector) + DATA_AT;
            long high = intOf(from);
            long low = intOf(from + 4);
            return (high << 32) | (low & 0xFFFFFFFFL);
        }

        int dataBytesAt(int copy, int sector) {
            return dataBytesOf(firstCell(copy, sector));
        }

        int firstRightCopy(int sector) {
            for (int copy = 0; copy < COPIES; copy++) {
                if (isRight(copy, sector)) {
                    return copy;
                }
            }
            return NONE;
        }

        boolean isRight(int copy, int sector) {
            int first = firstCell(copy, sector);
            int number = intOf(first);
            // the sum comes last, since it is by far the dearest test
            if (sector < rowSectors()) {
                return number == sector + 1 && hasWholeRows(first) && hasItsSum(first);
            }
            return number != 0 && dataBytesOf(first) == STATE_BYTES && hasItsSum(first);
        }

        private boolean hasItsSum(int first) {
            return sumOf(cells, first) == intOf(first + SUM_AT);
        }

        private boolean hasWholeRows(int first) {
            int size = dataBytesOf(first);
            if (size == 0 || size > DATA_BYTES) {
                return false;
            }
            int end = first + DATA_AT + size;
            int cell = first + DATA_AT;
            for (int row = 0; row < MOST_ROWS_OF_SECTOR && cell < end; row++) {
                int length = byteOf(cell + 1);
                if (byteOf(cell) >= KINDS || length == 0 || length > MOST_ROW_BYTES) {
                    return false;
                }
                cell += ROW_HEAD + length;
            }
            return cell == end;
        }

        private int dataBytesOf(int first) {
            return (byteOf(first + COUNT_AT) << 8) | byteOf(first + COUNT_AT + 1);
        }

        private int intOf(int cell) {
            int value = 0;
            for (int i = 0; i < 4; i++) {
                value = (value << 8) | byteOf(cell + i);
            }
            return value;
        }

        private int byteOf(int cell) {
            return cell >= 0 && cell < cells.length ? cells[cell] & 255 : 0;
        }

        private int firstCell(int copy, int sector) {
            return (copy * MOST_SECTORS + sector) * SECTOR_BYTES;
        }
    }

    /** The rows that wait for a sync. */
    private static final class Waiting {
        private final int[] kinds;
        private final int[] lengths;
        private final long[] values;
        private int size;

        Waiting() {
            kinds = new int[MOST_WAITING];
            lengths = new int[MOST_WAITING];
            values = new long[MOST_WAITING];
        }

        void clear() {
            size = 0;
        }

        int size() {
            return size;
        }

        boolean isFull() {
            return size >= MOST_WAITING;
        }

        void add(int kind, long bytes, int length) {
            if (size < MOST_WAITING) {
                kinds[size] = kind;
                lengths[size] = length;
                values[size] = bytes;
                size++;
            }
        }

        int kindOf(int i) {
            return i >= 0 && i < size ? kinds[i] : 0;
        }

        int lengthOf(int i) {
            return i >= 0 && i < size ? lengths[i] : 0;
        }

        long bytesOf(int i) {
            return i >= 0 && i < size ? values[i] : 0;
        }

        /** How many sectors a sync would need if one more row of this size waited. */
        int sectorsWith(int rowSize) {
            int sectors = 1;
            int filled = 0;
            for (int i = 0; i <= size; i++) {
                int next = i < size ? ROW_HEAD + lengthOf(i) : rowSize;
                if (filled + next > DATA_BYTES) {
                    sectors++;
                    filled = 0;
                }
                filled += next;
            }
            return sectors;
        }
    }

    /**
     * Where the acknowledged rows stand. The length is kept too, since a row is read with as many bytes as it had,
     * whatever its sector says by now.
     */
    private static final class Places {
        private static final int LENGTH_BITS = 4;
        private static final int START_BITS = 9;

        // a place is one number, which keeps an object's room small
        private final int[] packed;
        private int size;

        Places() {
            packed = new int[MOST_ROWS];
        }

        void clear() {
            size = 0;
        }

        int size() {
            return size;
        }

        void add(int sector, int start, int length) {
            if (size < MOST_ROWS) {
                packed[size] = (((sector << START_BITS) | start) << LENGTH_BITS) | length;
                size++;
            }
        }

        int sectorOf(int row) {
            return placeOf(row) >>> (START_BITS + LENGTH_BITS);
        }

        int startOf(int row) {
            return (placeOf(row) >>> LENGTH_BITS) & ((1 << START_BITS) - 1);
        }

        int lengthOf(int row) {
            return placeOf(row) & ((1 << LENGTH_BITS) - 1);
        }

        private int placeOf(int row) {
            return row >= 0 && row < size ? packed[row] : 0;
        }
    }

    /** The second room: of the rows that were sent, those that are there and those that are missing. */
    private static final class SecondRoom {
        // only the rows below sent count; what stands behind them is old
        private final boolean[] there;
        private int sent;
        private int present;
        private boolean lineUp;

        SecondRoom() {
            there = new boolean[MOST_ROWS];
        }

        void clear() {
            sent = 0;
            present = 0;
            lineUp = true;
        }

        boolean isLineUp() {
            return lineUp;
        }

        void setLine(boolean up) {
            lineUp = up;
        }

        int present() {
            return present;
        }

        int sent() {
            return sent;
        }

        void take(int n, int allRows) {
            int all = Math.min(allRows, MOST_ROWS);
            for (int i = 0; i < n && sent < all; i++) {
                there[sent] = lineUp;
                sent++;
                if (lineUp) {
                    present++;
                }
            }
        }

        int fillLowest(int n) {
            int filled = 0;
            for (int row = 0; row < sent && filled < n; row++) {
                if (!there[row]) {
                    there[row] = true;
                    filled++;
                }
            }
            present += filled;
            return filled;
        }

        void keepBelow(int allRows) {
            sent = Math.min(sent, allRows);
            present = 0;
            for (int row = 0; row < sent; row++) {
                if (there[row]) {
                    present++;
                }
            }
        }

        int firstOfGap(int wanted) {
            int gaps = 0;
            for (int row = 0; row < sent; row++) {
                boolean begins = !there[row] && (row == 0 || there[row - 1]);
                if (begins && gaps == wanted) {
                    return row;
                }
                if (begins) {
                    gaps++;
                }
            }
            return NONE;
        }

        int missingFrom(int first) {
            int row = Math.max(first, 0);
            while (row < sent && !there[row]) {
                row++;
            }
            return row - first;
        }
    }
}

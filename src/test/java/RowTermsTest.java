/** "Terms", rows, syncs, the reserve and states: a test for each sentence that names a boundary. */
public final class RowTermsTest {
    private static final Check CHECK = new Check();

    public static void main(String[] args) {
        rowsAreOfAKind();
        rowsHaveBytes();
        rowsOnASector();
        rowsWait();
        syncPutsInOrder();
        syncPutsWholeRows();
        syncTakesSectorsNotUsedYet();
        syncWritesCopyZeroFirst();
        syncAcknowledges();
        rowIsRefusedWhenAHundredWait();
        rowIsRefusedWithoutSectors();
        reportsLeaveTheReserve();
        reserveHasItsRange();
        reserveIsTwoAtFirst();
        statesAreLongs();
        statesHaveNumbers();
        statesGoByTurns();
        statesAreEightBytes();
        statesAreWrittenToCopyZeroFirst();
        CHECK.end("RowTermsTest");
    }

    private static void rowsAreOfAKind() {
        CHECK.sentence("Terms", "ROWS 0, 1, .. are of a KIND (0 .. 7)");
        ServiceDisk x = Disks.formatted(8);
        for (int kind = 0; kind <= 7; kind++) {
            int due = kind;
            CHECK.due("rows count from 0 on", due, () -> x.row(due, 1, 1));
        }
        x.sync();
        for (int kind = 0; kind <= 7; kind++) {
            int due = kind;
            CHECK.due("kind " + kind, due, () -> x.kind(due));
        }
        for (int kind : new int[] {-1, 8, Integer.MIN_VALUE, Integer.MAX_VALUE, 256}) {
            CHECK.unknown("kind " + kind, () -> x.row(kind, 1, 1));
        }
        CHECK.due("no such kind waits", 0, () -> x.count(1));
    }

    private static void rowsHaveBytes() {
        CHECK.sentence("Terms", "and 1 to 8 BYTES");
        ServiceDisk x = Disks.formatted(8);
        CHECK.due("1 byte", 0, () -> x.row(0, 0x1112131415161718L, 1));
        CHECK.due("8 bytes", 1, () -> x.row(0, 0x1112131415161718L, 8));
        x.sync();
        CHECK.due("the only byte", 0x18, () -> x.read(0, 0));
        CHECK.due("behind it", -1, () -> x.read(0, 1));
        CHECK.due("the first of eight", 0x11, () -> x.read(1, 0));
        CHECK.due("the last of eight", 0x18, () -> x.read(1, 7));
        CHECK.due("behind them", -1, () -> x.read(1, 8));
        for (int n : new int[] {0, 9, -1, Integer.MIN_VALUE, Integer.MAX_VALUE}) {
            CHECK.outOfRange(n + " bytes", () -> x.row(0, 0, n));
        }
        CHECK.due("none of them waits", 0, () -> x.count(1));
    }

    private static void rowsOnASector() {
        CHECK.sentence("Terms", "on a sector a row is the kind, how many, and the bytes.");
        ServiceDisk x = Disks.formatted(8);
        x.row(0, 0, 1);
        x.row(7, -2, 8);
        x.sync();
        byte[] due = Sectors.of(1, 0, 1, 0, 7, 8, 255, 255, 255, 255, 255, 255, 255, 254);
        Sectors.turnBoth(x, 0, due, Sectors.of(1, 5, 1, 6));
        CHECK.due("the smallest and the greatest row were so", 1, x::start);
        CHECK.due("in both copies", 0, () -> x.count(3));
        CHECK.due("the sector is as it was turned", 5, () -> x.kind(0));
    }

    private static void rowsWait() {
        CHECK.sentence("Terms", "New rows WAIT (at most 100).");
        ServiceDisk x = Disks.formatted(32);
        for (int i = 0; i < 100; i++) {
            int due = i;
            CHECK.due("row " + i, due, () -> x.row(0, due, 1));
        }
        CHECK.due("a hundred wait", 100, () -> x.count(1));
        CHECK.due("none is acknowledged", 0, () -> x.count(0));
        CHECK.noRoom("one more", () -> x.row(0, 0, 1));
        CHECK.due("still a hundred", 100, () -> x.count(1));
        CHECK.due("all are put", 100, x::sync);
        CHECK.due("the last of them", 99, () -> x.read(99, 0));
        CHECK.due("none waits", 0, () -> x.count(1));
    }

    private static void syncPutsInOrder() {
        CHECK.sentence("Terms", "A SYNC puts those that wait, in order");
        ServiceDisk x = Disks.formatted(8);
        for (int i = 0; i < 100; i++) {
            x.row(i % 4, 255 - i, 1 + i % 8);
        }
        x.sync();
        for (int i = 0; i < 100; i++) {
            int row = i;
            CHECK.due("row " + i, 255 - i, () -> x.read(row, row % 8));
        }
        CHECK.due("a start finds them so", 100, x::start);
        CHECK.due("the first", 255, () -> x.read(0, 0));
        CHECK.due("the last", 156, () -> x.read(99, 3));
        ServiceDisk empty = Disks.formatted(8);
        CHECK.due("when none waits", 0, empty::sync);
        CHECK.due("no sector is used", 0, () -> empty.count(4));
        Sectors.turn(empty, 0, 0, Sectors.blank(), Sectors.of(1, 0, 1, 5));
        CHECK.due("and none is written", 1, empty::start);
    }

    private static void syncPutsWholeRows() {
        CHECK.sentence("Terms", "as many whole ones as fit");
        // 493 bytes are used, 9 are left: a row of 7 bytes is the greatest that fits
        int[] bytes = {7, 8};
        int[] sectorsDue = {1, 2};
        for (int i = 0; i < bytes.length; i++) {
            ServiceDisk x = Disks.formatted(8);
            Disks.addRows(x, 49, 0, 0, 8);
            x.row(0, 0, 1);
            x.row(0, -1, bytes[i]);
            CHECK.due("a row of " + bytes[i] + " bytes", 51, x::sync);
            CHECK.due("sectors", sectorsDue[i], () -> x.count(4));
            Disks.spoil(x, 0, 0);
            CHECK.due("it is whole", 255, () -> x.read(50, 0));
            CHECK.due("on the sector that is due", 2 - sectorsDue[i], () -> x.count(2));
        }
        ServiceDisk x = Disks.formatted(8);
        Disks.addRows(x, 49, 0, 0, 8);
        x.row(0, 0, 1);
        x.row(0, 0, 8);
        x.row(0, 7, 1);
        CHECK.due("a small row behind one that did not fit", 52, x::sync);
        Disks.spoil(x, 0, 0);
        CHECK.due("comes behind it", 7, () -> x.read(51, 0));
        CHECK.due("on the second sector", 0, () -> x.count(2));
    }

    private static void syncTakesSectorsNotUsedYet() {
        CHECK.sentence("Terms", "onto the next sectors not used yet");
        ServiceDisk x = Disks.withUsed(8, 6);
        CHECK.due("each sync took the next one", 6, () -> x.count(4));
        for (int sector = 0; sector < 6; sector++) {
            int row = sector;
            Disks.spoilBoth(x, sector);
            CHECK.due("row " + row + " is on sector " + row, -2, () -> x.read(row, 0));
            Disks.spoilBoth(x, sector);
            CHECK.due("and on no other", row, () -> x.read(row, 0));
        }
        CHECK.due("with all of them used, a sync of none", 6, x::sync);
        CHECK.due("takes no sector of states", 0, () -> x.count(5));
        x.start();
        CHECK.due("and writes none", 0, () -> x.count(5));
    }

    private static void syncWritesCopyZeroFirst() {
        CHECK.sentence("Terms", "each is written to copy 0, then to copy 1.");
        // two sectors are four writes; what is due is how many rows a start finds, and what it repairs
        int[] rowsDue = {0, 50, 50, 100};
        int[] repairsDue = {0, 1, 0, 1};
        for (int writes = 0; writes < 4; writes++) {
            int i = writes;
            ServiceDisk x = Disks.formatted(8);
            Disks.addRows(x, 100, 0, 0, 8);
            x.cut(writes, 0);
            CHECK.due("cut behind " + writes, -1, x::sync);
            CHECK.due("rows behind " + writes, rowsDue[i], x::start);
            CHECK.due("repairs behind " + writes, repairsDue[i], () -> x.count(3));
        }
        ServiceDisk x = Disks.formatted(8);
        x.row(0, 1, 1);
        x.cut(1, 0);
        x.sync();
        x.alter(0, 0, 0, 1);
        CHECK.due("copy 1 was not written when copy 0 was", 0, x::start);
        ServiceDisk all = Disks.formatted(8);
        Disks.addRows(all, 100, 0, 0, 8);
        all.cut(4, 0);
        CHECK.due("there is no fifth write", 100, all::sync);
    }

    private static void syncAcknowledges() {
        CHECK.sentence("Terms", "Then they are ACKNOWLEDGED.");
        ServiceDisk x = Disks.formatted(8);
        x.row(3, 4, 1);
        CHECK.unknown("not before", () -> x.read(0, 0));
        CHECK.due("none before", 0, () -> x.count(0));
        x.sync();
        CHECK.due("then", 4, () -> x.read(0, 0));
        CHECK.due("one then", 1, () -> x.count(0));
        CHECK.due("it waits no more", 0, () -> x.count(1));
    }

    private static void rowIsRefusedWhenAHundredWait() {
        CHECK.sentence("Terms", "A new row is refused (no room) when 100 wait");
        ServiceDisk x = Disks.formatted(32);
        Disks.addRows(x, 99, 4, 0, 1);
        CHECK.due("99 wait", 99, () -> x.row(7, 0, 8));
        for (int kind = 0; kind <= 7; kind++) {
            int refused = kind;
            CHECK.noRoom("100 wait, kind " + kind, () -> x.row(refused, 0, 1));
        }
        x.sync();
        CHECK.due("none waits any more", 100, () -> x.row(4, 0, 1));
        Disks.addRows(x, 99, 0, 0, 1);
        CHECK.noRoom("100 wait again", () -> x.row(0, 0, 1));
        x.start();
        CHECK.due("a start forgot them", 100, () -> x.row(0, 0, 1));
    }

    private static void rowIsRefusedWithoutSectors() {
        CHECK.sentence("Terms", "or what waits and it would need more sectors than are left");
        ServiceDisk full = Disks.withUsed(8, 6);
        CHECK.noRoom("no sector is left", () -> full.row(0, 0, 1));
        ServiceDisk one = Disks.withUsed(8, 5);
        Disks.addRows(one, 49, 0, 0, 8);
        one.row(0, 0, 1);
        CHECK.noRoom("one is left with 9 bytes, for a row of 10", () -> one.row(0, 0, 8));
        CHECK.due("for a row of 9", 55, () -> one.row(0, 0, 7));
        CHECK.noRoom("one is left with no byte, for a row of 3", () -> one.row(0, 0, 1));
        CHECK.due("all that wait have room", 56, one::sync);
        ServiceDisk two = Disks.withUsed(8, 4);
        Disks.addRows(two, 49, 0, 0, 8);
        two.row(0, 0, 1);
        // the first sector keeps 9 bytes that no row of 10 can take
        Disks.addRows(two, 50, 0, 0, 8);
        CHECK.due("a hundred are on two sectors", 104, two::sync);
        CHECK.due("all are used", 6, () -> two.count(4));
        CHECK.noRoom("none is left behind them", () -> two.row(0, 0, 1));
        ServiceDisk small = Disks.withUsed(8, 5);
        Disks.addRows(small, 99, 0, 0, 1);
        CHECK.due("a hundred small ones need one sector", 104, () -> small.row(0, 0, 1));
    }

    private static void reportsLeaveTheReserve() {
        CHECK.sentence("Terms", "for kinds 4 .. 7 (reports) all but a RESERVE of sectors");
        for (int kind = 0; kind <= 7; kind++) {
            int k = kind;
            ServiceDisk x = Disks.withUsed(8, 3);
            CHECK.due("3 are left, kind " + kind, 3, () -> x.row(k, 0, 1));
            x.sync();
            if (kind < 4) {
                CHECK.due("2 are left, kind " + kind, 4, () -> x.row(k, 0, 1));
            } else {
                CHECK.noRoom("2 are left, kind " + kind, () -> x.row(k, 0, 1));
            }
        }
        ServiceDisk x = Disks.withUsed(8, 3);
        Disks.addRows(x, 50, 3, 0, 8);
        CHECK.noRoom("500 bytes wait, a report would need a second sector", () -> x.row(4, 0, 1));
        CHECK.due("a call may", 53, () -> x.row(3, 0, 1));
        CHECK.noRoom("calls that wait use the reserve", () -> x.row(4, 0, 1));
        x.reserve(1);
        CHECK.due("a report beside them", 54, () -> x.row(4, 0, 1));
    }

    private static void reserveHasItsRange() {
        CHECK.sentence("Terms", "(0 .. 8");
        ServiceDisk none = Disks.withUsed(12, 9);
        none.reserve(0);
        CHECK.due("without a reserve the last sector is left", 9, () -> none.row(4, 0, 1));
        ServiceDisk eight = Disks.withUsed(12, 1);
        eight.reserve(8);
        CHECK.due("9 are left, 8 are the reserve", 1, () -> eight.row(4, 0, 1));
        eight.sync();
        CHECK.noRoom("8 are left, 8 are the reserve", () -> eight.row(4, 0, 1));
        CHECK.due("for calls 8 are left", 2, () -> eight.row(3, 0, 1));
        ServiceDisk above = Disks.formatted(8);
        above.reserve(8);
        CHECK.noRoom("a reserve above all sectors", () -> above.row(4, 0, 1));
        CHECK.due("calls go on", 0, () -> above.row(0, 0, 1));
        CHECK.outOfRange("9", () -> above.reserve(9));
        CHECK.outOfRange("-1", () -> above.reserve(-1));
    }

    private static void reserveIsTwoAtFirst() {
        CHECK.sentence("Terms", "2 at first) are left.");
        for (int n : new int[] {8, 9, 32}) {
            ServiceDisk x = Disks.withUsed(n, n - 5);
            CHECK.due("3 are left of " + n, n - 5, () -> x.row(4, 0, 1));
            x.sync();
            CHECK.noRoom("2 are left of " + n, () -> x.row(4, 0, 1));
        }
    }

    private static void statesAreLongs() {
        CHECK.sentence("Terms", "STATES are numbers (longs)");
        long[] states = {
            0, 1, -1, Long.MIN_VALUE, Long.MAX_VALUE, 0xFFFFFFFFL, 0x80000000L, 0x7FFFFFFFL, 1L << 32, -1L << 32, 255,
        };
        ServiceDisk x = Disks.formatted(8);
        for (long state : states) {
            x.save(state);
            CHECK.due("saved", state, x::state);
            x.start();
            CHECK.due("found", state, x::state);
        }
    }

    private static void statesHaveNumbers() {
        CHECK.sentence("Terms", "each with a number 1, 2, ..");
        ServiceDisk x = Disks.formatted(8);
        CHECK.due("no state", 0, () -> x.count(5));
        for (int number = 1; number <= 300; number++) {
            int due = number;
            CHECK.due("number " + number, due, () -> x.save(7));
        }
        x.start();
        CHECK.due("found, above 255", 300, () -> x.count(5));
        CHECK.due("and counted on", 301, () -> x.save(7));
    }

    private static void statesGoByTurns() {
        CHECK.sentence("Terms", "an odd one is written to the last sector but one, an even one to the last");
        for (int n : new int[] {8, 32}) {
            ServiceDisk x = Disks.formatted(n);
            for (int number = 1; number <= 6; number++) {
                int due = number;
                x.save(100 + number);
                int sector = number % 2 == 1 ? n - 2 : n - 1;
                Disks.spoilBoth(x, sector);
                x.start();
                CHECK.due("without its sector it is gone", due - 1, () -> x.count(5));
                Disks.spoilBoth(x, sector);
                x.start();
                CHECK.due("with its sector it is there", due, () -> x.count(5));
            }
        }
        ServiceDisk x = Disks.formatted(8);
        Sectors.turnBoth(x, 7, Sectors.blank(), Sectors.ofState(-4, 5));
        x.start();
        CHECK.due("below 0", -3, () -> x.save(6));
        Sectors.turnBoth(x, 6, Sectors.ofState(-3, 6), Sectors.ofState(9, 7));
        x.start();
        CHECK.due("an odd one is on the last but one", 7, x::state);
    }

    private static void statesAreEightBytes() {
        CHECK.sentence("Terms", "(8 bytes, the highest first)");
        ServiceDisk x = Disks.formatted(8);
        x.save(0x8102030405060708L);
        Sectors.turnBoth(x, 6, Sectors.of(1, 0x81, 2, 3, 4, 5, 6, 7, 8), Sectors.of(3, 0xF1, 0, 0, 0, 0x80, 0, 0, 9));
        x.start();
        CHECK.due("written so, and read so", 0xF100000080000009L, x::state);
        CHECK.due("in both copies", 0, () -> x.count(3));
    }

    private static void statesAreWrittenToCopyZeroFirst() {
        CHECK.sentence("Terms", "to copy 0, then to copy 1.");
        ServiceDisk none = Disks.formatted(8);
        none.cut(0, 0);
        CHECK.due("cut at the first write", -1, () -> none.save(5));
        none.start();
        CHECK.due("no copy was written", 0, () -> none.count(5));
        ServiceDisk first = Disks.formatted(8);
        first.cut(1, 0);
        CHECK.due("cut at the second write", -1, () -> first.save(5));
        first.alter(1, 6, 0, 1);
        first.start();
        CHECK.due("copy 0 was written", 5, first::state);
        ServiceDisk both = Disks.formatted(8);
        both.cut(2, 0);
        CHECK.due("a save is two writes", 1, () -> both.save(5));
        both.start();
        CHECK.due("of both copies", 0, () -> both.count(3));
    }

    private RowTermsTest() {}
}

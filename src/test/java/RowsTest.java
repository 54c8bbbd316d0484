/** Promises 1 to 5: a new object, format, reserve, row, sync. */
public final class RowsTest {
    private static final Check CHECK = new Check();

    public static void main(String[] args) {
        newObjectHasNoDisk();
        newObjectRefusesInOrder();
        formatTakesItsRange();
        formatLeavesNothingOfBefore();
        formatWipesTheBytes();
        reserveTakesItsRange();
        reserveHoldsSectorsBackFromReports();
        reserveStaysOverAStart();
        rowRefusesInOrder();
        rowsAreNumbered();
        rowIsRefusedBehindAHundred();
        rowIsRefusedWithoutSectors();
        waitingRowsNeedWholeSectors();
        refusedRowChangesNothing();
        syncWritesWhatTheDocumentSays();
        syncTakesTheLowestBytes();
        syncFillsSectorsInOrder();
        syncOfNothingUsesNothing();
        everySyncTakesNewSectors();
        CHECK.end("RowsTest");
    }

    private static void newObjectHasNoDisk() {
        ServiceDisk x = new ServiceDisk();
        CHECK.notInThisState("1 reserve", () -> x.reserve(2));
        CHECK.notInThisState("1 row", () -> x.row(0, 0, 1));
        CHECK.notInThisState("1 sync", x::sync);
        CHECK.notInThisState("1 save", () -> x.save(1));
        CHECK.notInThisState("1 state", x::state);
        CHECK.notInThisState("1 cut", () -> x.cut(0, 0));
        CHECK.notInThisState("1 start", x::start);
        CHECK.notInThisState("1 read", () -> x.read(0, 0));
        CHECK.notInThisState("1 kind", () -> x.kind(0));
        CHECK.notInThisState("1 extract", () -> x.extract(0, 0));
        CHECK.notInThisState("1 line up", () -> x.line(true));
        CHECK.notInThisState("1 line down", () -> x.line(false));
        CHECK.notInThisState("1 send", () -> x.send(0));
        CHECK.notInThisState("1 gap", () -> x.gap(0));
        CHECK.notInThisState("1 fill", () -> x.fill(0));
        CHECK.notInThisState("1 count", () -> x.count(0));
        CHECK.unknown("1 alter", () -> x.alter(0, 0, 0, 1));
    }

    private static void newObjectRefusesInOrder() {
        ServiceDisk x = new ServiceDisk();
        CHECK.outOfRange("1 reserve, range", () -> x.reserve(9));
        CHECK.unknown("1 row, kind", () -> x.row(8, 0, 0));
        CHECK.outOfRange("1 row, range", () -> x.row(7, 0, 9));
        CHECK.outOfRange("1 cut, range", () -> x.cut(0, 512));
        CHECK.outOfRange("1 send, range", () -> x.send(101));
        CHECK.outOfRange("1 fill, range", () -> x.fill(-1));
        CHECK.notInThisState("1 read ahead of unknown", () -> x.read(-1, -1));
        CHECK.notInThisState("1 kind ahead of unknown", () -> x.kind(-1));
        CHECK.notInThisState("1 extract ahead of range", () -> x.extract(-1, -2));
        CHECK.notInThisState("1 gap ahead of range", () -> x.gap(-1));
        CHECK.notInThisState("1 count ahead of unknown", () -> x.count(99));
        CHECK.unknown("1 alter, mask", () -> x.alter(0, 0, 0, 0));
    }

    private static void formatTakesItsRange() {
        ServiceDisk x = new ServiceDisk();
        for (int n : new int[] {7, 33, 0, -1, Integer.MIN_VALUE, Integer.MAX_VALUE}) {
            CHECK.outOfRange("2 format " + n, () -> x.format(n));
            CHECK.notInThisState("2 no disk behind format " + n, x::start);
        }
        for (int n = 8; n <= 32; n++) {
            int size = n;
            x.format(size);
            CHECK.due("2 power", 0, () -> x.count(0));
            x.alter(1, size - 1, 511, 255);
            CHECK.unknown("2 sector " + size, () -> x.alter(1, size, 0, 1));
        }
    }

    private static void formatLeavesNothingOfBefore() {
        ServiceDisk x = Disks.formatted(8);
        Disks.useSectors(x, 2);
        x.alter(0, 0, 9, 1);
        x.read(0, 0);
        x.start();
        x.alter(0, 1, 9, 1);
        x.read(1, 0);
        x.send(2);
        x.line(false);
        x.save(5);
        x.reserve(0);
        x.row(0, 0, 1);
        x.cut(0, 0);
        CHECK.outOfRange("2 refused", () -> x.format(33));
        CHECK.due("2 refused: rows stay", 2, () -> x.count(0));
        x.format(8);
        for (int what = 0; what < 8; what++) {
            int count = what;
            CHECK.due("2 count " + what, 0, () -> x.count(count));
        }
        CHECK.due("2 no state", 0, x::state);
        CHECK.notInThisState("2 the line is up", () -> x.line(true));
        Disks.useSectors(x, 4);
        CHECK.due("2 no cut waits", 4, () -> x.count(0));
        CHECK.noRoom("2 the reserve is 2", () -> x.row(4, 0, 1));
        CHECK.due("2 not more than 2", 4, () -> x.row(0, 0, 1));
        x.cut(0, 0);
        x.sync();
        x.format(9);
        CHECK.due("2 format without power", 0, () -> x.row(0, 0, 1));
    }

    private static void formatWipesTheBytes() {
        ServiceDisk x = Disks.formatted(32);
        Disks.useSectors(x, 30);
        x.save(1);
        x.save(2);
        x.format(32);
        CHECK.due("2 no rows are found", 0, x::start);
        CHECK.due("2 no state is found", 0, () -> x.count(5));
        Sectors.turn(x, 1, 29, Sectors.blank(), Sectors.of(30, 0, 1, 7));
        Sectors.turn(x, 1, 31, Sectors.blank(), Sectors.ofState(8, 99));
        Sectors.turn(x, 0, 0, Sectors.blank(), Sectors.of(1, 3, 1, 7));
        CHECK.due("2 the bytes were 0", 1, x::start);
        CHECK.due("2 the bytes of the last sector were 0", 99, x::state);
        CHECK.due("2 the kind", 3, () -> x.kind(0));
    }

    private static void reserveTakesItsRange() {
        ServiceDisk x = Disks.formatted(32);
        for (int sectors : new int[] {-1, 9, Integer.MIN_VALUE, Integer.MAX_VALUE}) {
            CHECK.outOfRange("3 reserve " + sectors, () -> x.reserve(sectors));
        }
        for (int sectors = 0; sectors <= 8; sectors++) {
            ServiceDisk y = Disks.formatted(32);
            y.reserve(sectors);
            Disks.useSectors(y, 30 - sectors - 1);
            CHECK.due("3 one sector is left above " + sectors, 29 - sectors, () -> y.row(4, 0, 1));
            y.sync();
            CHECK.noRoom("3 reserve of " + sectors, () -> y.row(4, 0, 1));
        }
        ServiceDisk off = Disks.withoutPower(8);
        CHECK.notInThisState("3 no power", () -> off.reserve(0));
        CHECK.outOfRange("3 range ahead of power", () -> off.reserve(9));
    }

    private static void reserveHoldsSectorsBackFromReports() {
        ServiceDisk x = Disks.formatted(8);
        Disks.useSectors(x, 4);
        for (int kind = 4; kind < 8; kind++) {
            int report = kind;
            CHECK.noRoom("3 kind " + kind, () -> x.row(report, 0, 1));
        }
        for (int kind = 0; kind < 4; kind++) {
            int call = kind;
            CHECK.due("3 kind " + kind, 4 + kind, () -> x.row(call, 0, 1));
        }
        CHECK.noRoom("3 what waits counts for reports", () -> x.row(4, 0, 1));
        x.reserve(1);
        CHECK.due("3 a smaller reserve", 8, () -> x.row(4, 0, 1));
        x.reserve(8);
        CHECK.noRoom("3 a reserve above what is left", () -> x.row(7, 0, 1));
        CHECK.due("3 calls go on", 9, () -> x.row(3, 0, 1));
        CHECK.outOfRange("3 refused", () -> x.reserve(9));
        CHECK.noRoom("3 refused changes nothing", () -> x.row(7, 0, 1));
    }

    private static void reserveStaysOverAStart() {
        ServiceDisk x = Disks.formatted(8);
        x.reserve(6);
        x.start();
        CHECK.noRoom("3 the reserve stays", () -> x.row(4, 0, 1));
    }

    private static void rowRefusesInOrder() {
        ServiceDisk x = Disks.formatted(8);
        for (int kind : new int[] {-1, 8, Integer.MIN_VALUE, Integer.MAX_VALUE}) {
            CHECK.unknown("4 kind " + kind, () -> x.row(kind, 0, 1));
            CHECK.unknown("4 kind ahead of range " + kind, () -> x.row(kind, 0, 0));
        }
        for (int n : new int[] {0, -1, 9, Integer.MIN_VALUE, Integer.MAX_VALUE}) {
            CHECK.outOfRange("4 bytes " + n, () -> x.row(0, 0, n));
        }
        ServiceDisk off = Disks.withoutPower(8);
        CHECK.unknown("4 kind ahead of power", () -> off.row(8, 0, 1));
        CHECK.outOfRange("4 range ahead of power", () -> off.row(0, 0, 9));
        CHECK.notInThisState("4 no power", () -> off.row(0, 0, 8));
        Disks.useSectors(x, 6);
        CHECK.noRoom("4 no room", () -> x.row(0, 0, 1));
        CHECK.unknown("4 kind ahead of room", () -> x.row(8, 0, 1));
        CHECK.outOfRange("4 range ahead of room", () -> x.row(0, 0, 0));
        x.cut(0, 0);
        x.save(1);
        CHECK.notInThisState("4 power ahead of room", () -> x.row(0, 0, 1));
    }

    private static void rowsAreNumbered() {
        ServiceDisk x = Disks.formatted(8);
        CHECK.due("4 row 0", 0, () -> x.row(0, 1, 1));
        CHECK.due("4 row 1", 1, () -> x.row(7, -1, 8));
        x.sync();
        CHECK.due("4 row 2", 2, () -> x.row(1, 1, 1));
        x.start();
        CHECK.due("4 row 2 again, as it was forgotten", 2, () -> x.row(1, 1, 1));
        CHECK.unknown("4 a row that waits is not acknowledged", () -> x.read(2, 0));
    }

    private static void rowIsRefusedBehindAHundred() {
        ServiceDisk x = Disks.formatted(32);
        Disks.addRows(x, 99, 0, 0, 1);
        CHECK.due("4 the hundredth", 99, () -> x.row(0, 0, 1));
        CHECK.noRoom("4 a hundred wait", () -> x.row(0, 0, 1));
        CHECK.noRoom("4 a hundred wait, for reports", () -> x.row(4, 0, 1));
        CHECK.due("4 they are synced", 100, x::sync);
        CHECK.due("4 and more may wait", 100, () -> x.row(0, 0, 1));
    }

    private static void rowIsRefusedWithoutSectors() {
        ServiceDisk x = Disks.formatted(8);
        Disks.useSectors(x, 5);
        Disks.addRows(x, 50, 1, -1, 8);
        CHECK.noRoom("4 500 bytes wait, 3 more do not fit", () -> x.row(0, 0, 1));
        CHECK.due("4 the sync fits", 55, x::sync);
        CHECK.due("4 all are used", 6, () -> x.count(4));
        CHECK.noRoom("4 none is left", () -> x.row(0, 0, 1));
        x.format(8);
        Disks.useSectors(x, 5);
        Disks.addRows(x, 49, 1, -1, 8);
        Disks.addRows(x, 4, 1, -1, 1);
        CHECK.noRoom("4 502 bytes wait", () -> x.row(0, 0, 1));
        CHECK.due("4 502 bytes fit", 58, x::sync);
        CHECK.due("4 the last byte of 502", 255, () -> x.read(57, 0));
    }

    private static void waitingRowsNeedWholeSectors() {
        ServiceDisk x = Disks.formatted(8);
        Disks.useSectors(x, 2);
        Disks.addRows(x, 49, 0, 0, 8);
        x.row(0, 0, 1);
        CHECK.due("4 493 bytes wait, a row of 10 goes on the next one", 52, () -> x.row(4, 0, 8));
        Disks.addRows(x, 48, 4, 0, 8);
        CHECK.due("4 49 rows on the second sector", 99, () -> x.count(1));
        CHECK.due("4 500 bytes on the second sector", 101, () -> x.row(4, 0, 8));
        CHECK.due("4 synced", 102, x::sync);
        CHECK.due("4 two sectors", 4, () -> x.count(4));
        x.format(8);
        Disks.useSectors(x, 4);
        x.reserve(1);
        Disks.addRows(x, 50, 4, 0, 8);
        CHECK.noRoom("4 reports have one sector", () -> x.row(4, 0, 1));
        CHECK.due("4 calls have two", 54, () -> x.row(3, 0, 1));
    }

    private static void refusedRowChangesNothing() {
        ServiceDisk x = Disks.formatted(8);
        x.row(1, 5, 1);
        CHECK.unknown("4 refused", () -> x.row(9, 6, 1));
        CHECK.outOfRange("4 refused", () -> x.row(1, 6, 9));
        CHECK.due("4 one waits", 1, () -> x.count(1));
        CHECK.due("4 one is synced", 1, x::sync);
        CHECK.due("4 it is the first", 5, () -> x.read(0, 0));
    }

    private static void syncWritesWhatTheDocumentSays() {
        ServiceDisk x = Disks.formatted(8);
        x.row(2, 0x0102L, 2);
        x.row(7, 0xFFL, 1);
        CHECK.due("5 synced", 2, x::sync);
        byte[] due = Sectors.of(1, 2, 2, 1, 2, 7, 1, 255);
        Sectors.turnBoth(x, 0, due, Sectors.of(1, 6, 1, 9));
        CHECK.due("5 each byte was as due", 1, x::start);
        CHECK.due("5 in both copies", 0, () -> x.count(3));
        CHECK.due("5 the kind", 6, () -> x.kind(0));
        x.row(0, 3, 1);
        x.sync();
        Sectors.turnBoth(x, 1, Sectors.of(2, 0, 1, 3), Sectors.of(2, 1, 1, 4));
        CHECK.due("5 the number of the next sector", 2, x::start);
        CHECK.due("5 nothing to repair", 0, () -> x.count(3));
    }

    private static void syncTakesTheLowestBytes() {
        ServiceDisk x = Disks.formatted(8);
        for (int n = 1; n <= 8; n++) {
            x.row(0, 0xF1F2F3F4F5F6F7F8L, n);
        }
        x.sync();
        for (int row = 0; row < 8; row++) {
            for (int i = 0; i <= row; i++) {
                int number = row;
                int at = i;
                CHECK.due("4 byte " + i + " of row " + row, 0xF8 - row + i, () -> x.read(number, at));
            }
            int number = row;
            CHECK.due("4 behind row " + row, -1, () -> x.read(number, number + 1));
        }
    }

    private static void syncFillsSectorsInOrder() {
        ServiceDisk x = Disks.formatted(8);
        for (int i = 0; i < 100; i++) {
            x.row(i % 4, i, 8);
        }
        CHECK.due("5 all are acknowledged", 100, x::sync);
        CHECK.due("5 on two sectors", 2, () -> x.count(4));
        CHECK.due("5 none waits", 0, () -> x.count(1));
        for (int row : new int[] {0, 49, 50, 99}) {
            CHECK.due("5 row " + row, row, () -> x.read(row, 7));
            CHECK.due("5 kind of row " + row, row % 4, () -> x.kind(row));
        }
        x.alter(0, 1, 0, 1);
        x.alter(1, 1, 0, 1);
        CHECK.due("5 row 49 is on the first sector", 49, () -> x.read(49, 7));
        CHECK.due("5 row 50 is on the second sector", -2, () -> x.read(50, 7));
    }

    private static void syncOfNothingUsesNothing() {
        ServiceDisk x = Disks.formatted(8);
        CHECK.due("5 nothing waits", 0, x::sync);
        CHECK.due("5 no sector is used", 0, () -> x.count(4));
        x.cut(0, 0);
        CHECK.due("5 no write, no cut", 0, x::sync);
        x.row(0, 0, 1);
        CHECK.due("5 the cut waited on", -1, x::sync);
        CHECK.notInThisState("5 no power", x::sync);
    }

    private static void everySyncTakesNewSectors() {
        ServiceDisk x = Disks.formatted(8);
        for (int i = 1; i <= 6; i++) {
            int all = i;
            x.row(0, i, 1);
            CHECK.due("5 acknowledged in all", all, x::sync);
            CHECK.due("5 sectors", all, () -> x.count(4));
        }
        CHECK.due("5 all are found", 6, x::start);
    }

    private RowsTest() {}
}

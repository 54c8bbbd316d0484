/** Promises 8 and 9: cut, start. */
public final class CutsTest {
    private static final Check CHECK = new Check();

    public static void main(String[] args) {
        cutTakesItsRange();
        cutNeedsPower();
        cutTearsAtTheByte();
        cutKeepsTheRestAsItWas();
        cutKeepsAPrefixOfWrites();
        cutCountsWritesOverCalls();
        cutTakesTheLastOneTold();
        cutIsForgotten();
        withoutPowerNothingTells();
        startNeedsADisk();
        startForgetsWhatWaits();
        startStopsAtTheFirstWrongSector();
        startFindsOldSectorsAgain();
        startRepairs();
        startIsNotCutByRepairs();
        startWantsNumbers();
        startWantsWholeRows();
        startLooksNotBehindTheBytes();
        startFindsAsManyRowsAsFit();
        CHECK.end("CutsTest");
    }

    private static void putRow(ServiceDisk x, int kind, int value) {
        x.row(kind, value, 1);
        x.sync();
    }

    private static void cutTakesItsRange() {
        ServiceDisk x = Disks.formatted(8);
        for (int writes : new int[] {-1, 21, Integer.MIN_VALUE, Integer.MAX_VALUE}) {
            CHECK.outOfRange("8 writes " + writes, () -> x.cut(writes, 0));
        }
        for (int bytes : new int[] {-1, 512, Integer.MIN_VALUE, Integer.MAX_VALUE}) {
            CHECK.outOfRange("8 bytes " + bytes, () -> x.cut(0, bytes));
        }
        x.row(0, 1, 1);
        CHECK.due("8 what is refused changes nothing", 1, x::sync);
        x.cut(20, 511);
        for (int i = 1; i <= 10; i++) {
            int number = i;
            CHECK.due("8 twenty writes are done", number, () -> x.save(7));
        }
        CHECK.due("8 the next is cut", -1, () -> x.save(8));
    }

    private static void cutNeedsPower() {
        ServiceDisk x = Disks.formatted(8);
        x.cut(0, 0);
        x.save(1);
        CHECK.notInThisState("8 no power", () -> x.cut(0, 0));
        CHECK.outOfRange("8 range ahead of power", () -> x.cut(21, 0));
        CHECK.outOfRange("8 range ahead of power", () -> x.cut(0, -1));
    }

    private static void cutTearsAtTheByte() {
        byte[] whole = Sectors.of(1, 3, 2, 0xAB, 0xCD);
        for (int bytes : new int[] {400, 507, 508, 509, 510, 511}) {
            ServiceDisk x = Disks.formatted(8);
            x.row(3, 0xABCD, 2);
            x.cut(0, bytes);
            CHECK.due("8 cut", -1, x::sync);
            byte[] torn = Sectors.blank();
            System.arraycopy(whole, 0, torn, 0, bytes);
            Sectors.turn(x, 0, 0, torn, whole);
            CHECK.due("8 torn at " + bytes, 1, x::start);
            CHECK.due("8 the row", 0xCD, () -> x.read(0, 1));
            CHECK.due("8 copy 1 was not written", 1, () -> x.count(3));
        }
    }

    private static void cutKeepsTheRestAsItWas() {
        byte[] before = Sectors.ofState(1, 0x1111111111111111L);
        byte[] whole = Sectors.ofState(3, 0x2222222222222222L);
        for (int bytes = 0; bytes <= 14; bytes++) {
            ServiceDisk x = Disks.formatted(8);
            x.save(0x1111111111111111L);
            x.save(7);
            x.cut(1, bytes);
            CHECK.due("8 cut", -1, () -> x.save(0x2222222222222222L));
            byte[] torn = before.clone();
            System.arraycopy(whole, 0, torn, 0, bytes);
            Sectors.turn(x, 1, 6, torn, Sectors.ofState(8, 9));
            x.alter(0, 6, 5, 1);
            x.start();
            CHECK.due("8 torn at " + bytes, 9, x::state);
        }
    }

    private static void cutKeepsAPrefixOfWrites() {
        int[] rowsDue = {0, 50, 50, 100};
        int[] repairsDue = {0, 1, 0, 1};
        for (int writes = 0; writes < 4; writes++) {
            ServiceDisk x = Disks.formatted(8);
            for (int i = 0; i < 100; i++) {
                x.row(1, i, 8);
            }
            x.cut(writes, 300);
            CHECK.due("5 cut at write " + writes, -1, x::sync);
            int due = rowsDue[writes];
            int repaired = repairsDue[writes];
            CHECK.due("9 rows of whole sectors", due, x::start);
            CHECK.due("9 all are acknowledged", due, () -> x.count(0));
            CHECK.due("9 none waits", 0, () -> x.count(1));
            CHECK.due("9 repaired", repaired, () -> x.count(3));
            CHECK.due("9 sectors", due / 50, () -> x.count(4));
            CHECK.due("4 the next row", due, () -> x.row(2, 200, 1));
            CHECK.due("5 the next sectors follow", due + 1, x::sync);
            CHECK.due("11 it is there", 200, () -> x.read(due, 0));
            CHECK.due("9 and is found", due + 1, x::start);
        }
    }

    private static void cutCountsWritesOverCalls() {
        ServiceDisk x = Disks.formatted(8);
        x.cut(5, 100);
        x.row(0, 1, 1);
        CHECK.due("8 writes 1 and 2", 1, x::sync);
        CHECK.due("8 writes 3 and 4", 1, () -> x.save(5));
        x.row(0, 2, 1);
        CHECK.due("8 write 6 is cut", -1, x::sync);
        CHECK.due("9 write 5 was done", 2, x::start);
        CHECK.due("9 write 6 was not", 1, () -> x.count(3));
        CHECK.due("8 a cut comes once", 2, () -> x.save(6));
    }

    private static void cutTakesTheLastOneTold() {
        ServiceDisk x = Disks.formatted(8);
        x.cut(0, 0);
        x.cut(2, 0);
        CHECK.due("8 the first is not any more", 1, () -> x.save(5));
        CHECK.due("8 the second comes", -1, () -> x.save(6));
    }

    private static void cutIsForgotten() {
        ServiceDisk x = Disks.formatted(8);
        x.cut(0, 0);
        x.start();
        CHECK.due("9 a start forgets it", 1, () -> x.save(5));
        x.cut(0, 0);
        x.format(8);
        CHECK.due("2 a format too", 1, () -> x.save(5));
    }

    private static void withoutPowerNothingTells() {
        ServiceDisk x = Disks.formatted(8);
        putRow(x, 0, 1);
        x.cut(0, 0);
        x.save(1);
        CHECK.notInThisState("no power: reserve", () -> x.reserve(2));
        CHECK.notInThisState("no power: row", () -> x.row(0, 0, 1));
        CHECK.notInThisState("no power: sync", x::sync);
        CHECK.notInThisState("no power: save", () -> x.save(1));
        CHECK.notInThisState("no power: state", x::state);
        CHECK.notInThisState("no power: cut", () -> x.cut(0, 0));
        CHECK.notInThisState("no power: read", () -> x.read(0, 0));
        CHECK.notInThisState("no power: read ahead of unknown", () -> x.read(9, 0));
        CHECK.notInThisState("no power: read ahead of range", () -> x.read(0, -1));
        CHECK.notInThisState("no power: kind", () -> x.kind(0));
        CHECK.notInThisState("no power: kind ahead of unknown", () -> x.kind(9));
        CHECK.notInThisState("no power: extract", () -> x.extract(0, 1));
        CHECK.notInThisState("no power: extract ahead of range", () -> x.extract(1, 0));
        CHECK.notInThisState("no power: line", () -> x.line(false));
        CHECK.notInThisState("no power: send", () -> x.send(1));
        CHECK.outOfRange("no power: send, range first", () -> x.send(101));
        CHECK.notInThisState("no power: gap", () -> x.gap(0));
        CHECK.notInThisState("no power: gap ahead of range", () -> x.gap(-1));
        CHECK.notInThisState("no power: fill", () -> x.fill(1));
        CHECK.outOfRange("no power: fill, range first", () -> x.fill(101));
        CHECK.notInThisState("no power: count", () -> x.count(0));
        CHECK.notInThisState("no power: count ahead of unknown", () -> x.count(8));
        CHECK.outOfRange("no power: format, range", () -> x.format(7));
        CHECK.due("9 power again", 1, x::start);
        CHECK.due("9 and the row", 1, () -> x.read(0, 0));
    }

    private static void startNeedsADisk() {
        ServiceDisk x = new ServiceDisk();
        CHECK.notInThisState("9 no disk", x::start);
        x.format(8);
        CHECK.due("9 an empty disk", 0, x::start);
        CHECK.due("9 with power, again", 0, x::start);
    }

    private static void startForgetsWhatWaits() {
        ServiceDisk x = Disks.formatted(8);
        putRow(x, 0, 1);
        x.row(0, 2, 1);
        x.row(0, 3, 1);
        CHECK.due("9 only what was synced", 1, x::start);
        CHECK.due("9 none waits", 0, () -> x.count(1));
        CHECK.due("9 nothing to sync", 1, x::sync);
    }

    private static void startStopsAtTheFirstWrongSector() {
        ServiceDisk x = Disks.formatted(8);
        for (int i = 0; i < 4; i++) {
            putRow(x, 0, 10 + i);
        }
        x.alter(0, 1, 8, 1);
        x.alter(1, 1, 8, 1);
        x.alter(0, 2, 8, 1);
        CHECK.due("9 one sector in front", 1, x::start);
        CHECK.due("9 it is used", 1, () -> x.count(4));
        CHECK.due("9 nothing behind it is repaired", 0, () -> x.count(3));
        CHECK.unknown("9 rows behind it are not any more", () -> x.read(1, 0));
    }

    private static void startFindsOldSectorsAgain() {
        ServiceDisk x = Disks.formatted(8);
        for (int i = 0; i < 3; i++) {
            putRow(x, 0, 10 + i);
        }
        x.alter(0, 1, 8, 1);
        x.alter(1, 1, 8, 1);
        x.start();
        putRow(x, 0, 99);
        CHECK.due("9 two now", 2, () -> x.count(0));
        CHECK.due("9 the third sector is still right", 3, x::start);
        CHECK.due("9 the new row", 99, () -> x.read(1, 0));
        CHECK.due("9 the old row", 12, () -> x.read(2, 0));
    }

    private static void startRepairs() {
        ServiceDisk x = Disks.formatted(8);
        putRow(x, 1, 10);
        putRow(x, 2, 11);
        x.alter(0, 0, 200, 1);
        x.alter(1, 1, 200, 1);
        CHECK.due("9 both are found", 2, x::start);
        CHECK.due("9 each copy is repaired once", 2, () -> x.count(3));
        CHECK.due("9 a start reads no row", 0, () -> x.count(2));
        x.alter(1, 0, 200, 1);
        x.alter(0, 1, 200, 1);
        CHECK.due("11 from the repaired copy", 10, () -> x.read(0, 0));
        CHECK.due("11 from the repaired copy", 11, () -> x.read(1, 0));
        CHECK.due("11 the first from copy 0, the second from copy 1", 1, () -> x.count(2));
        CHECK.due("9 repaired again", 2, x::start);
        CHECK.due("9 counted on", 4, () -> x.count(3));
    }

    private static void startIsNotCutByRepairs() {
        ServiceDisk x = Disks.formatted(8);
        putRow(x, 1, 10);
        x.alter(0, 0, 200, 1);
        x.cut(0, 0);
        CHECK.due("9 the cut is forgotten", 1, x::start);
        CHECK.due("9 repaired", 1, () -> x.count(3));
        CHECK.due("9 with power", 1, x::sync);
    }

    private static void startWantsNumbers() {
        for (int number : new int[] {0, 2, -1, 0x01000001}) {
            ServiceDisk x = Disks.formatted(8);
            Sectors.turnBoth(x, 0, Sectors.blank(), Sectors.of(number, 0, 1, 5));
            CHECK.due("9 the first sector has number 1, not " + number, 0, x::start);
        }
        ServiceDisk x = Disks.formatted(8);
        for (int sector = 0; sector < 6; sector++) {
            Sectors.turn(x, sector % 2, sector, Sectors.blank(), Sectors.of(sector + 1, 7, 1, sector));
        }
        CHECK.due("9 all have their numbers", 6, x::start);
        CHECK.due("9 and are repaired", 6, () -> x.count(3));
        CHECK.due("9 the last one", 5, () -> x.read(5, 0));
    }

    private static void startWantsWholeRows() {
        byte[][] wrong = {
            Sectors.of(1),
            Sectors.of(1, 0),
            Sectors.of(1, 0, 1),
            Sectors.of(1, 0, 2, 5),
            Sectors.of(1, 0, 0),
            Sectors.of(1, 0, 0, 0, 1, 5),
            Sectors.of(1, 0, 9, 1, 2, 3, 4, 5, 6, 7, 8, 9),
            Sectors.of(1, 8, 1, 5),
            Sectors.of(1, 255, 1, 5),
            Sectors.of(1, 0, 255, 5),
            Sectors.of(1, 0, 1, 5, 3),
            Sectors.of(1, 0, 1, 5, 3, 2, 1),
            Sectors.saying(503, 1, rowsOfThree(167)),
            Sectors.saying(502, 1, rowsOfThree(167)),
            Sectors.saying(0xFFFF, 1, rowsOfThree(167)),
            Sectors.saying(0x0103, 1, 0, 1, 5),
        };
        for (int i = 0; i < wrong.length; i++) {
            ServiceDisk x = Disks.formatted(8);
            Sectors.turn(x, 0, 0, Sectors.blank(), wrong[i]);
            CHECK.due("9 no whole rows: " + i, 0, x::start);
        }
        ServiceDisk x = Disks.formatted(8);
        Sectors.turn(x, 1, 0, Sectors.blank(), Sectors.of(1, 0, 1, 5, 7, 8, 1, 2, 3, 4, 5, 6, 7, 8));
        CHECK.due("9 whole rows", 2, x::start);
        CHECK.due("9 the second one", 8, () -> x.read(1, 7));
    }

    private static int[] rowsOfThree(int rows) {
        int[] data = new int[3 * rows];
        for (int i = 0; i < rows; i++) {
            data[3 * i + 1] = 1;
        }
        return data;
    }

    private static void startLooksNotBehindTheBytes() {
        ServiceDisk x = Disks.formatted(8);
        Sectors.turnBoth(x, 0, Sectors.blank(), Sectors.saying(3, 1, 0, 1, 5, 9, 9, 9));
        CHECK.due("9 the sum, the number and the rows are right", 1, x::start);
    }

    private static void startFindsAsManyRowsAsFit() {
        ServiceDisk x = Disks.formatted(8);
        Sectors.turn(x, 0, 0, Sectors.blank(), Sectors.of(1, rowsOfThree(167)));
        CHECK.due("9 167 rows of three", 167, x::start);
        CHECK.due("9 the last of them", 0, () -> x.read(166, 0));
        CHECK.due("9 repaired", 1, () -> x.count(3));
        CHECK.due("4 the next row", 167, () -> x.row(0, 9, 1));
        CHECK.due("5 synced", 168, x::sync);
        CHECK.due("11 the next row", 9, () -> x.read(167, 0));
    }

    private CutsTest() {}
}

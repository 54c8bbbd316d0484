/** Promises 10 to 13: alter, read, kind, extract. */
public final class ReadingTest {
    private static final Check CHECK = new Check();

    public static void main(String[] args) {
        alterRefusesInOrder();
        alterIsExclusiveOr();
        alterWorksWithoutPower();
        alterReachesEveryByte();
        readAnswersBytes();
        readRefusesInOrder();
        readTakesTheOtherCopy();
        readOfALostRow();
        readCountsEveryTime();
        rowsAreReadWhereTheyStand();
        kindIsRead();
        kindRefusesInOrder();
        extractSums();
        extractRefusesInOrder();
        extractLeavesOutLostRows();
        extractCountsReads();
        CHECK.end("ReadingTest");
    }

    private static void alterRefusesInOrder() {
        ServiceDisk x = Disks.formatted(8);
        int[] far = {-1, Integer.MIN_VALUE, Integer.MAX_VALUE};
        for (int number : far) {
            CHECK.unknown("10 copy " + number, () -> x.alter(number, 0, 0, 0));
            CHECK.unknown("10 sector " + number, () -> x.alter(0, number, 0, 0));
            CHECK.unknown("10 byte " + number, () -> x.alter(0, 0, number, 0));
            CHECK.outOfRange("10 mask " + number, () -> x.alter(0, 0, 0, number));
        }
        CHECK.unknown("10 copy 2", () -> x.alter(2, 0, 0, 1));
        CHECK.unknown("10 sector 8", () -> x.alter(0, 8, 0, 1));
        CHECK.unknown("10 byte 512", () -> x.alter(0, 0, 512, 1));
        CHECK.outOfRange("10 mask 0", () -> x.alter(0, 0, 0, 0));
        CHECK.outOfRange("10 mask 256", () -> x.alter(0, 0, 0, 256));
        Sectors.turn(x, 0, 0, Sectors.blank(), Sectors.of(1, 0, 1, 5));
        CHECK.due("10 what is refused changes nothing", 1, x::start);
        x.format(32);
        x.format(8);
        CHECK.unknown("10 a sector of the disk before", () -> x.alter(0, 8, 0, 1));
    }

    private static void alterIsExclusiveOr() {
        ServiceDisk x = Disks.threeRows();
        x.alter(0, 0, 300, 255);
        x.alter(0, 0, 300, 240);
        x.read(0, 0);
        CHECK.due("10 still altered", 1, () -> x.count(2));
        x.alter(0, 0, 300, 15);
        x.read(0, 0);
        CHECK.due("10 as it was", 1, () -> x.count(2));
    }

    private static void alterWorksWithoutPower() {
        ServiceDisk x = Disks.threeRows();
        x.cut(0, 0);
        x.save(1);
        x.alter(0, 0, 0, 1);
        CHECK.unknown("10 unknown without power", () -> x.alter(0, 9, 0, 1));
        CHECK.outOfRange("10 range without power", () -> x.alter(0, 0, 0, 0));
        CHECK.due("9 found", 3, x::start);
        CHECK.due("9 one was altered", 1, () -> x.count(3));
    }

    private static void alterReachesEveryByte() {
        for (int at = 0; at < Sectors.BYTES; at += 7) {
            ServiceDisk x = Disks.threeRows();
            x.alter(0, 1, at, 1 << (at % 8));
            CHECK.due("11 byte " + at + " is altered", 1, () -> x.read(2, 0));
            CHECK.due("11 from copy 1", 1, () -> x.count(2));
            x.alter(1, 1, at, 1 << (at % 8));
            CHECK.due("11 in both", -2, () -> x.read(2, 0));
            CHECK.due("11 the other sector is right", 0x0A, () -> x.read(0, 0));
        }
    }

    private static void readAnswersBytes() {
        ServiceDisk x = Disks.threeRows();
        CHECK.due("11 row 0, byte 0", 0x0A, () -> x.read(0, 0));
        CHECK.due("11 row 0, byte 1", 0x0B, () -> x.read(0, 1));
        CHECK.due("11 behind it", -1, () -> x.read(0, 2));
        CHECK.due("11 far behind it", -1, () -> x.read(0, Integer.MAX_VALUE));
        CHECK.due("11 row 1", 0xFF, () -> x.read(1, 0));
        CHECK.due("11 row 2", 3, () -> x.read(2, 2));
        CHECK.due("11 all from copy 0", 0, () -> x.count(2));
    }

    private static void readRefusesInOrder() {
        ServiceDisk x = Disks.threeRows();
        for (int row : new int[] {-1, 3, Integer.MIN_VALUE, Integer.MAX_VALUE}) {
            CHECK.unknown("11 row " + row, () -> x.read(row, 0));
            CHECK.unknown("11 row ahead of range " + row, () -> x.read(row, -1));
        }
        CHECK.outOfRange("11 byte -1", () -> x.read(0, -1));
        CHECK.outOfRange("11 lowest byte", () -> x.read(2, Integer.MIN_VALUE));
        x.row(0, 1, 1);
        CHECK.unknown("11 a row that waits", () -> x.read(3, 0));
        Disks.spoilBoth(x, 0);
        CHECK.outOfRange("11 range ahead of lost", () -> x.read(0, -1));
        x.alter(0, 1, 300, 16);
        CHECK.outOfRange("11 refused", () -> x.read(2, -1));
        CHECK.due("11 a refused one is not counted", 0, () -> x.count(2));
    }

    private static void readTakesTheOtherCopy() {
        ServiceDisk x = Disks.threeRows();
        x.alter(1, 0, 300, 16);
        CHECK.due("11 copy 0 is right", 0x0B, () -> x.read(0, 1));
        CHECK.due("11 not from copy 1", 0, () -> x.count(2));
        x.alter(1, 0, 300, 16);
        x.alter(0, 0, 9, 255);
        CHECK.due("11 copy 1 is right", 0x0B, () -> x.read(0, 1));
        CHECK.due("11 from copy 1", 1, () -> x.count(2));
        CHECK.due("11 reading repairs nothing", 0, () -> x.count(3));
        CHECK.due("11 so it is read there again", 0x0A, () -> x.read(0, 0));
        CHECK.due("11 from copy 1 twice", 2, () -> x.count(2));
    }

    private static void readOfALostRow() {
        ServiceDisk x = Disks.threeRows();
        Disks.spoilBoth(x, 0);
        CHECK.due("11 lost", -2, () -> x.read(0, 0));
        CHECK.due("11 lost, behind it", -2, () -> x.read(0, 8));
        CHECK.due("12 lost", -2, () -> x.kind(1));
        CHECK.due("11 lost ones are not read from copy 1", 0, () -> x.count(2));
        CHECK.due("18 it is still acknowledged", 3, () -> x.count(0));
        x.alter(1, 0, 300, 16);
        CHECK.due("11 not lost any more", 0x0A, () -> x.read(0, 0));
    }

    private static void readCountsEveryTime() {
        ServiceDisk x = Disks.threeRows();
        x.alter(0, 0, 300, 16);
        CHECK.due("11 behind it", -1, () -> x.read(0, 2));
        CHECK.due("11 the row was read", 1, () -> x.count(2));
        CHECK.due("12 kind", 3, () -> x.kind(0));
        CHECK.due("12 the row was read", 2, () -> x.count(2));
        x.start();
        CHECK.due("18 since the disk was made", 2, () -> x.count(2));
    }

    private static void rowsAreReadWhereTheyStand() {
        ServiceDisk x = Disks.formatted(8);
        x.row(1, 0x0105, 2);
        x.row(2, 0x07, 1);
        x.sync();
        byte[] is = Sectors.of(1, 1, 2, 1, 5, 2, 1, 7);
        byte[] shall = Sectors.of(1, 0, 5, 200, 6, 3, 8, 9);
        Sectors.turn(x, 0, 0, is, shall);
        CHECK.due("11 the kind there", 0, () -> x.kind(0));
        CHECK.due("11 the bytes there", 200, () -> x.read(0, 0));
        CHECK.due("11 as many as it had", -1, () -> x.read(0, 2));
        CHECK.due("11 the kind where the second one stood", 3, () -> x.kind(1));
        CHECK.due("11 its byte there", 9, () -> x.read(1, 0));
        CHECK.due("13 both so", Sectors.sum(0, 200, 6, 3, 9), () -> x.extract(0, 2));
        CHECK.due("9 a start finds what is there", 1, x::start);
        CHECK.due("11 all its bytes", 9, () -> x.read(0, 4));
        x.alter(0, 0, 300, 1);
        CHECK.due("12 copy 1 is as it was, and right", 1, () -> x.kind(0));
        CHECK.due("11 read by what the start found", 7, () -> x.read(0, 4));
    }

    private static void kindIsRead() {
        ServiceDisk x = Disks.formatted(8);
        for (int kind = 0; kind < 8; kind++) {
            x.row(kind, 1, 1);
        }
        x.sync();
        for (int kind = 0; kind < 8; kind++) {
            int due = kind;
            CHECK.due("12 kind " + kind, due, () -> x.kind(due));
        }
        x.alter(0, 0, 100, 1);
        CHECK.due("12 from copy 1", 7, () -> x.kind(7));
        CHECK.due("12 counted", 1, () -> x.count(2));
    }

    private static void kindRefusesInOrder() {
        ServiceDisk x = Disks.threeRows();
        for (int row : new int[] {-1, 3, Integer.MIN_VALUE, Integer.MAX_VALUE}) {
            CHECK.unknown("12 row " + row, () -> x.kind(row));
        }
        x.row(0, 1, 1);
        CHECK.unknown("12 a row that waits", () -> x.kind(3));
    }

    private static void extractSums() {
        ServiceDisk x = Disks.threeRows();
        CHECK.due("13 none", 0, () -> x.extract(0, 0));
        CHECK.due("13 none at the end", 0, () -> x.extract(3, 3));
        CHECK.due("13 the first", Sectors.sum(3, 0x0A, 0x0B), () -> x.extract(0, 1));
        CHECK.due("13 the last two", Sectors.sum(5, 0xFF, 1, 1, 2, 3), () -> x.extract(1, 3));
        CHECK.due("13 all", Sectors.sum(3, 0x0A, 0x0B, 5, 0xFF, 1, 1, 2, 3), () -> x.extract(0, 3));
        CHECK.due("13 the document's sum", -1219913742, () -> documentsRow().extract(0, 1));
    }

    private static ServiceDisk documentsRow() {
        ServiceDisk x = Disks.formatted(8);
        x.row(0, 4276803, 3);
        x.sync();
        return x;
    }

    private static void extractRefusesInOrder() {
        ServiceDisk x = Disks.threeRows();
        x.row(0, 1, 1);
        CHECK.outOfRange("13 below 0", () -> x.extract(-1, 2));
        CHECK.outOfRange("13 above all", () -> x.extract(0, 4));
        CHECK.outOfRange("13 the wrong way", () -> x.extract(2, 1));
        CHECK.outOfRange("13 far", () -> x.extract(Integer.MIN_VALUE, Integer.MAX_VALUE));
        CHECK.outOfRange("13 from above all", () -> x.extract(4, 4));
        CHECK.outOfRange("13 both below 0", () -> x.extract(-2, -1));
    }

    private static void extractLeavesOutLostRows() {
        ServiceDisk x = Disks.threeRows();
        Disks.spoilBoth(x, 0);
        CHECK.due("13 the first sector is lost", Sectors.sum(1, 1, 2, 3), () -> x.extract(0, 3));
        Disks.spoilBoth(x, 0);
        Disks.spoilBoth(x, 1);
        CHECK.due("13 the second sector is lost", Sectors.sum(3, 0x0A, 0x0B, 5, 0xFF), () -> x.extract(0, 3));
        Disks.spoilBoth(x, 0);
        CHECK.due("13 all are lost", 0, () -> x.extract(0, 3));
        CHECK.due("13 none was read from copy 1", 0, () -> x.count(2));
    }

    private static void extractCountsReads() {
        ServiceDisk x = Disks.threeRows();
        x.alter(0, 0, 300, 16);
        CHECK.due("13 from copy 1", Sectors.sum(3, 0x0A, 0x0B, 5, 0xFF, 1, 1, 2, 3), () -> x.extract(0, 3));
        CHECK.due("13 each row once", 2, () -> x.count(2));
        CHECK.outOfRange("13 refused", () -> x.extract(0, 4));
        CHECK.due("13 refused reads none", 2, () -> x.count(2));
    }

    private ReadingTest() {}
}

/** "Terms", the sum, the disk, its sectors and when they are right: a test for each sentence that names a boundary. */
public final class SectorTermsTest {
    private static final Check CHECK = new Check();

    public static void main(String[] args) {
        sumOfNothing();
        sumOfBytes();
        diskHasItsSectors();
        sectorsHaveTheirBytes();
        sectorsAreAllZero();
        numbersAreCompared();
        numbersAreCountedUp();
        numbersHaveTheHighestByteFirst();
        howManyBytesHasTheHighestByteFirst();
        bytesAreAtMost502();
        bytesAreZeroBehind();
        sumIsOfAllBytesBefore();
        sumHasTheHighestByteFirst();
        sectorsAreRightByTheirSum();
        rowSectorsHaveTheirNumber();
        stateSectorsHaveAnyNumberButZero();
        rowSectorsHaveWholeRows();
        rowSectorsHaveNotMoreThan502();
        rowSectorsHaveOneRowAtLeast();
        stateSectorsHaveEightBytes();
        CHECK.end("SectorTermsTest");
    }

    /** How many rows a start finds on a disk whose first sector is so in one copy. */
    private static int rowsFound(int copy, byte[] firstSector) {
        ServiceDisk x = Disks.formatted(8);
        Sectors.turn(x, copy, 0, Sectors.blank(), firstSector);
        return x.start();
    }

    /** An object behind a start that found both state sectors so; null is a blank one. */
    private static ServiceDisk withStates(byte[] lastButOne, byte[] last) {
        ServiceDisk x = Disks.formatted(8);
        if (lastButOne != null) {
            Sectors.turnBoth(x, 6, Sectors.blank(), lastButOne);
        }
        if (last != null) {
            Sectors.turnBoth(x, 7, Sectors.blank(), last);
        }
        x.start();
        return x;
    }

    private static ServiceDisk withRow(int kind, long bytes, int n) {
        ServiceDisk x = Disks.formatted(8);
        x.row(kind, bytes, n);
        x.sync();
        return x;
    }

    private static void sumOfNothing() {
        CHECK.sentence("Terms", "THE SUM of bytes is s = 0");
        ServiceDisk x = Disks.withUsed(8, 1);
        CHECK.due("of no rows, at the first", 0, () -> x.extract(0, 0));
        CHECK.due("of no rows, behind the last", 0, () -> x.extract(1, 1));
    }

    private static void sumOfBytes() {
        CHECK.sentence("Terms", "then for each b (0 .. 255): s = rotl(s xor b, 5) * 0x85EBCA6B in 32 bits.");
        CHECK.due("the lowest bytes", 0, () -> withRow(0, 0, 1).extract(0, 1));
        CHECK.due("bytes 0 and 1", -1116123808, () -> withRow(0, 1, 1).extract(0, 1));
        CHECK.due("bytes 1 and 0", 72487837, () -> withRow(1, 0, 1).extract(0, 1));
        CHECK.due("127 is the last below the sign", 1052065677, () -> withRow(3, 127, 1).extract(0, 1));
        CHECK.due("128 is no number below 0", 1518462189, () -> withRow(3, 128, 1).extract(0, 1));
        CHECK.due("the highest byte", 1724025527, () -> withRow(7, 255, 1).extract(0, 1));
        CHECK.due("the highest bytes", 1816689656, () -> withRow(4, -1, 8).extract(0, 1));
    }

    private static void diskHasItsSectors() {
        CHECK.sentence("Terms", "A DISK has n SECTORS (8 .. 32)");
        for (int n = 8; n <= 32; n++) {
            int size = n;
            ServiceDisk x = Disks.withUsed(n, n - 2);
            CHECK.due("all but two are for rows", size - 2, () -> x.count(4));
            CHECK.noRoom("no more of " + n, () -> x.row(0, 0, 1));
            CHECK.due("all of them are found", size - 2, x::start);
            x.alter(0, n - 1, 0, 1);
            CHECK.unknown("sector " + n, () -> x.alter(0, size, 0, 1));
        }
        for (int n : new int[] {7, 33}) {
            CHECK.outOfRange(n + " sectors", () -> new ServiceDisk().format(n));
        }
    }

    private static void sectorsHaveTheirBytes() {
        CHECK.sentence("Terms", "of 512 bytes");
        for (int at : new int[] {0, 511}) {
            ServiceDisk x = Disks.withUsed(8, 2);
            x.alter(0, 0, at, 1);
            CHECK.due("byte " + at, 0, () -> x.read(0, 0));
            CHECK.due("is of this sector", 1, () -> x.count(2));
            CHECK.due("the next sector", 1, () -> x.read(1, 0));
            CHECK.due("has bytes of its own", 1, () -> x.count(2));
        }
        ServiceDisk x = Disks.formatted(8);
        CHECK.unknown("byte 512", () -> x.alter(0, 0, 512, 1));
        CHECK.unknown("byte -1", () -> x.alter(0, 1, -1, 1));
    }

    private static void sectorsAreAllZero() {
        CHECK.sentence("Terms", "all 0, in two COPIES 0 and 1");
        for (int copy = 0; copy < 2; copy++) {
            ServiceDisk x = Disks.formatted(32);
            for (int sector = 0; sector < 30; sector++) {
                Sectors.turn(x, copy, sector, Sectors.blank(), Sectors.of(sector + 1, 7, 1, sector));
            }
            Sectors.turn(x, copy, 30, Sectors.blank(), Sectors.ofState(1, 5));
            Sectors.turn(x, copy, 31, Sectors.blank(), Sectors.ofState(2, 6));
            CHECK.due("rows on bytes that were 0 in copy " + copy, 30, x::start);
            CHECK.due("the other copy was wrong everywhere", 32, () -> x.count(3));
            CHECK.due("the last sector", 6, x::state);
            Disks.spoilBoth(x, 31);
            x.start();
            CHECK.due("the last but one", 5, x::state);
        }
        ServiceDisk x = Disks.formatted(8);
        CHECK.unknown("copy 2", () -> x.alter(2, 0, 0, 1));
        CHECK.unknown("copy -1", () -> x.alter(-1, 1, 0, 1));
    }

    private static void numbersAreCompared() {
        CHECK.sentence("Terms", "(of 32 bits with a sign, where numbers are compared");
        int[][] lowerAndGreater = {
            {-1, 1}, {Integer.MIN_VALUE, Integer.MAX_VALUE}, {Integer.MIN_VALUE, -1}, {-2, -1}, {1, 2},
            {255, 256}, {0x7FFFFFFE, 0x7FFFFFFF}, {Integer.MIN_VALUE, 1}, {-1, Integer.MAX_VALUE},
        };
        for (int[] pair : lowerAndGreater) {
            byte[] lower = Sectors.ofState(pair[0], 10);
            byte[] greater = Sectors.ofState(pair[1], 20);
            String what = pair[1] + " is above " + pair[0];
            CHECK.due(what, 20, () -> withStates(lower, greater).state());
            CHECK.due(what + ", by turns", 20, () -> withStates(greater, lower).state());
            CHECK.due(what + ", its number", pair[1], () -> withStates(lower, greater).count(5));
        }
    }

    private static void numbersAreCountedUp() {
        CHECK.sentence("Terms", "or counted up)");
        ServiceDisk top = withStates(Sectors.ofState(Integer.MAX_VALUE, 1), null);
        CHECK.due("behind the greatest number is the lowest", Integer.MIN_VALUE, () -> top.save(2));
        CHECK.due("it has the state", 2, top::state);
        CHECK.due("and the number", Integer.MIN_VALUE, () -> top.count(5));
        CHECK.due("the next one counts up from there", Integer.MIN_VALUE + 1, () -> top.save(3));
        ServiceDisk zero = withStates(Sectors.ofState(-1, 1), null);
        CHECK.due("behind -1 is 0", 0, () -> zero.save(2));
        CHECK.due("it has the state while there is power", 2, zero::state);
        zero.start();
        CHECK.due("but number 0 is right in no copy", 1, zero::state);
        CHECK.due("so -1 is the state's number", -1, () -> zero.count(5));
        zero.save(3);
        CHECK.due("behind 0 is 1", 1, () -> zero.save(4));
        zero.start();
        CHECK.due("which a start finds", 4, zero::state);
    }

    private static void numbersHaveTheHighestByteFirst() {
        CHECK.sentence("Terms", "bytes 0 .. 3 a NUMBER");
        ServiceDisk x = withStates(Sectors.ofState(0x01020304, 1), null);
        CHECK.due("all four bytes", 0x01020304, () -> x.count(5));
        CHECK.due("the next one is odd", 0x01020305, () -> x.save(2));
        Sectors.turnBoth(x, 6, Sectors.ofState(0x01020305, 2), Sectors.ofState(0x01020306, 3));
        x.start();
        CHECK.due("it was written so", 3, x::state);
        CHECK.due("in both copies", 0, () -> x.count(3));
    }

    private static void howManyBytesHasTheHighestByteFirst() {
        CHECK.sentence("Terms", "4 and 5 how many bytes it has (both the highest byte first)");
        ServiceDisk x = Disks.formatted(8);
        Disks.addRows(x, 25, 0, 0, 8);
        x.row(0, 0, 4);
        x.sync();
        int[] data = new int[256];
        for (int row = 0; row <= 25; row++) {
            data[10 * row + 1] = row < 25 ? 8 : 4;
        }
        byte[] due = Sectors.of(1, data);
        CHECK.due("256 is 1 and 0", 1, () -> due[4]);
        Sectors.turnBoth(x, 0, due, Sectors.of(1, 0, 1, 5));
        CHECK.due("256 bytes were written so", 1, x::start);
        CHECK.due("in both copies", 0, () -> x.count(3));
        CHECK.due("256 bytes are read so", 26, () -> rowsFound(0, due));
        CHECK.due("3 is not 3 and 0", 0, () -> rowsFound(0, Sectors.saying(0x0300, 1, 0, 1, 5)));
    }

    private static void bytesAreAtMost502() {
        CHECK.sentence("Terms", "those bytes from 6 on (at most 502");
        ServiceDisk x = Disks.formatted(8);
        Disks.addRows(x, 49, 0, -1, 8);
        Disks.addRows(x, 4, 0, 200, 1);
        CHECK.due("502 bytes", 53, x::sync);
        CHECK.due("are on one sector", 1, () -> x.count(4));
        CHECK.due("the last byte of them", 200, () -> x.read(52, 0));
        CHECK.due("a start finds them", 53, x::start);
        CHECK.due("the last byte of them, again", 200, () -> x.read(52, 0));
        ServiceDisk y = Disks.formatted(8);
        Disks.addRows(y, 49, 0, -1, 8);
        y.row(0, 0, 1);
        y.row(0, 0x0102030405060708L, 8);
        CHECK.due("503 bytes", 51, y::sync);
        CHECK.due("are on two sectors", 2, () -> y.count(4));
        CHECK.due("the last byte of them", 8, () -> y.read(50, 7));
    }

    private static void bytesAreZeroBehind() {
        CHECK.sentence("Terms", "0 behind them)");
        ServiceDisk x = Disks.formatted(8);
        Disks.addRows(x, 50, 7, -1, 8);
        x.sync();
        x.alter(0, 0, 0, 1);
        x.alter(1, 0, 0, 1);
        CHECK.due("the long sector is wrong now", 0, x::start);
        x.row(0, 5, 1);
        x.sync();
        Sectors.turnBoth(x, 0, Sectors.of(1, 0, 1, 5), Sectors.of(1, 6, 1, 9));
        CHECK.due("the short one has 0 where the long one was", 1, x::start);
        CHECK.due("in both copies", 0, () -> x.count(3));
        x.alter(0, 6, 14, 255);
        x.alter(0, 6, 507, 255);
        x.save(1);
        Sectors.turnBoth(x, 6, Sectors.ofState(1, 1), Sectors.ofState(3, 4));
        x.start();
        CHECK.due("a state has 0 behind it", 4, x::state);
        CHECK.due("in both copies, too", 0, () -> x.count(3));
    }

    private static void sumIsOfAllBytesBefore() {
        CHECK.sentence("Terms", "in 508 .. 511 the sum of bytes 0 .. 507");
        for (int at = 0; at < Sectors.BYTES; at++) {
            ServiceDisk x = Disks.withUsed(8, 1);
            x.save(5);
            x.alter(0, 0, at, 1 << (at % 8));
            x.alter(1, 0, at, 128 >> (at % 8));
            CHECK.due("a row whose sector is altered at " + at, -2, () -> x.read(0, 0));
            x.alter(0, 6, at, 1);
            x.alter(1, 6, at, 128);
            x.start();
            CHECK.due("a state whose sector is altered at " + at, 0, () -> x.count(5));
        }
    }

    private static void sumHasTheHighestByteFirst() {
        CHECK.sentence("Terms", "(likewise)");
        byte[] right = Sectors.of(1, 0, 1, 5);
        byte[] turned = right.clone();
        for (int i = 0; i < 4; i++) {
            turned[508 + i] = right[511 - i];
        }
        CHECK.due("the highest byte of the sum first", 1, () -> rowsFound(0, right));
        CHECK.due("the lowest byte of the sum first", 0, () -> rowsFound(0, turned));
    }

    private static void sectorsAreRightByTheirSum() {
        CHECK.sentence("Terms", "It is RIGHT in a copy when its sum is so");
        byte[] right = Sectors.of(1, 0, 1, 5);
        for (int copy = 0; copy < 2; copy++) {
            int in = copy;
            CHECK.due("its sum in copy " + copy, 1, () -> rowsFound(in, right));
            for (int bit = 0; bit < 32; bit++) {
                byte[] wrong = right.clone();
                wrong[508 + bit / 8] ^= (byte) (1 << (bit % 8));
                CHECK.due("a sum that differs by bit " + bit, 0, () -> rowsFound(in, wrong));
            }
        }
        byte[] noSum = right.clone();
        for (int at = 508; at < 512; at++) {
            noSum[at] = 0;
        }
        CHECK.due("no sum", 0, () -> rowsFound(0, noSum));
        byte[] behind = right.clone();
        behind[507] = 9;
        CHECK.due("the sum alone is wrong", 0, () -> rowsFound(0, behind));
        CHECK.due("a byte behind what it has, with its sum", 1, () -> rowsFound(0, Sectors.summed(behind)));
    }

    private static void rowSectorsHaveTheirNumber() {
        CHECK.sentence("Terms", "it has the number that it must have (sector k below n - 2, which are for rows: k + 1");
        for (int n : new int[] {8, 32}) {
            int last = n - 3;
            for (int number : new int[] {0, last, last + 2, -(last + 1), (last + 1) | 0x01000000, (last + 1) << 8}) {
                ServiceDisk x = Disks.withUsed(n, last);
                Sectors.turnBoth(x, last, Sectors.blank(), Sectors.of(number, 0, 1, 5));
                CHECK.due("number " + number + " on sector " + last, last, x::start);
            }
            ServiceDisk x = Disks.withUsed(n, last);
            Sectors.turnBoth(x, last, Sectors.blank(), Sectors.of(last + 1, 0, 1, 5));
            CHECK.due("its number on sector " + last, last + 1, x::start);
            Sectors.turnBoth(x, n - 2, Sectors.blank(), Sectors.of(n - 1, 0, 1, 5));
            CHECK.due("sector n - 2 is not for rows", last + 1, x::start);
        }
        CHECK.due("number 0 on sector 0", 0, () -> rowsFound(0, Sectors.of(0, 0, 1, 5)));
        CHECK.due("number 1 on sector 0", 1, () -> rowsFound(0, Sectors.of(1, 0, 1, 5)));
        CHECK.due("number 2 on sector 0", 0, () -> rowsFound(0, Sectors.of(2, 0, 1, 5)));
        for (int shift = 8; shift < 32; shift++) {
            byte[] sector = Sectors.of(1 | (1 << shift), 0, 1, 5);
            CHECK.due("number 1 with bit " + shift, 0, () -> rowsFound(0, sector));
            CHECK.due("number 1 with bit " + shift + " in copy 1", 0, () -> rowsFound(1, sector));
        }
    }

    private static void stateSectorsHaveAnyNumberButZero() {
        CHECK.sentence("Terms", "the last two ones, for states: any but 0)");
        for (int number : new int[] {1, 2, -1, -2, 7, 8, Integer.MIN_VALUE, Integer.MAX_VALUE, 1 << 24}) {
            byte[] sector = Sectors.ofState(number, 99);
            CHECK.due("number " + number + " on the last but one", 99, () -> withStates(sector, null).state());
            CHECK.due("number " + number + " on the last", 99, () -> withStates(null, sector).state());
        }
        byte[] zero = Sectors.ofState(0, 99);
        CHECK.due("number 0 on the last but one", 0, () -> withStates(zero, null).state());
        CHECK.due("number 0 on the last", 0, () -> withStates(null, zero).state());
        CHECK.due("number 0 on both", 0, () -> withStates(zero, zero).state());
        byte[] below = Sectors.ofState(-9, 5);
        CHECK.due("a number below 0 has the state beside a 0", 5, () -> withStates(zero, below).state());
    }

    private static void rowSectorsHaveWholeRows() {
        CHECK.sentence("Terms", "and what it has is whole rows");
        int[][] rows = {{7, 8, 1, 2, 3, 4, 5, 6, 7, 8}, {0, 1, 0}, {0, 1, 255, 3, 2, 4, 5}};
        int[] due = {1, 1, 2};
        for (int i = 0; i < rows.length; i++) {
            byte[] sector = Sectors.of(1, rows[i]);
            CHECK.due("whole rows " + i, due[i], () -> rowsFound(0, sector));
        }
        int[][] noRows = {
            {0}, {0, 1}, {0, 2, 5}, {0, 8, 1, 2, 3, 4, 5, 6, 7}, {0, 1, 5, 3}, {0, 1, 5, 3, 1}, {0, 1, 5, 3, 2, 1},
            {0, 0}, {0, 0, 0, 1, 5}, {0, 1, 5, 0, 0}, {0, 9, 1, 2, 3, 4, 5, 6, 7, 8, 9}, {0, 255, 5},
            {8, 1, 5}, {255, 1, 5}, {0, 1, 5, 128, 1, 5},
        };
        for (int i = 0; i < noRows.length; i++) {
            byte[] sector = Sectors.of(1, noRows[i]);
            CHECK.due("no whole rows " + i, 0, () -> rowsFound(0, sector));
            CHECK.due("no whole rows in copy 1 " + i, 0, () -> rowsFound(1, sector));
        }
    }

    /** Rows of one byte, and a last one of more, so that all are of this size. */
    private static int[] rowsOfSize(int size) {
        int[] data = new int[size];
        int at = 0;
        while (size - at >= 6) {
            data[at + 1] = 1;
            at += 3;
        }
        data[at + 1] = size - at - 2;
        return data;
    }

    private static void rowSectorsHaveNotMoreThan502() {
        CHECK.sentence("Terms", "(not more than 502 bytes");
        CHECK.due("501 bytes", 167, () -> rowsFound(0, Sectors.of(1, rowsOfSize(501))));
        CHECK.due("502 bytes", 167, () -> rowsFound(0, Sectors.of(1, rowsOfSize(502))));
        // what would be the last row of 503 bytes ends on the sum's first byte
        byte[] over = Sectors.saying(503, 1, rowsOfSize(502));
        over[505] = 3;
        byte[] summed = Sectors.summed(over);
        CHECK.due("503 bytes", 0, () -> rowsFound(0, summed));
        for (int said : new int[] {504, 0x0200, 0x7FFF, 0x8000, 0x8003, 0xFFFF}) {
            CHECK.due(said + " bytes", 0, () -> rowsFound(0, Sectors.saying(said, 1, rowsOfSize(502))));
        }
    }

    private static void rowSectorsHaveOneRowAtLeast() {
        CHECK.sentence("Terms", "one row at least)");
        CHECK.due("no row", 0, () -> rowsFound(0, Sectors.of(1)));
        CHECK.due("no row, in copy 1", 0, () -> rowsFound(1, Sectors.of(1)));
        CHECK.due("one row", 1, () -> rowsFound(1, Sectors.of(1, 0, 1, 0)));
        ServiceDisk x = Disks.formatted(8);
        Sectors.turnBoth(x, 0, Sectors.blank(), Sectors.of(1));
        Sectors.turnBoth(x, 1, Sectors.blank(), Sectors.of(2, 0, 1, 5));
        CHECK.due("an empty sector ends the rows", 0, x::start);
        CHECK.due("and is not used", 0, () -> x.count(4));
    }

    private static void stateSectorsHaveEightBytes() {
        CHECK.sentence("Terms", "or, for states, 8 bytes.");
        for (int said : new int[] {0, 1, 7, 9, 0x0108, 0x0800, 502, 503, 0xFFFF}) {
            byte[] sector = Sectors.saying(said, 2, 0, 0, 0, 0, 0, 0, 0, 77);
            CHECK.due(said + " bytes, the last but one", 0, () -> withStates(sector, null).state());
            CHECK.due(said + " bytes, the last", 0, () -> withStates(null, sector).state());
        }
        byte[] noRows = Sectors.of(2, 255, 0, 255, 0, 255, 0, 255, 1);
        CHECK.due("8 bytes need be no rows", 0xFF00FF00FF00FF01L, () -> withStates(null, noRows).state());
    }

    private SectorTermsTest() {}
}

/** Promises 10 to 18: a test for each of their sentences that names a boundary. */
public final class ReadingEdgesTest {
    private static final Check CHECK = new Check();
    private static final int LOW = Integer.MIN_VALUE;
    private static final int HIGH = Integer.MAX_VALUE;

    public static void main(String[] args) {
        alterIsExclusiveOr();
        alterUnknown();
        alterRange();
        readAnswersAByte();
        readBehind();
        readLost();
        readUnknown();
        readRange();
        readPower();
        kindAnswers();
        kindLost();
        kindUnknown();
        kindPower();
        extractSums();
        extractLeavesOutLost();
        extractRange();
        extractPower();
        lineIsUpOrDown();
        lineIsSo();
        sendTakesTheNext();
        sendRange();
        sendPower();
        gapAnswers();
        gapNotSoMany();
        gapRange();
        gapPower();
        fillAnswers();
        fillRange();
        fillNeedsTheLine();
        countAnswers();
        countUnknown();
        countPower();
        CHECK.end("ReadingEdgesTest");
    }

    private static ServiceDisk threeRowsWithoutPower() {
        ServiceDisk x = Disks.threeRows();
        Disks.losePower(x);
        return x;
    }

    private static void alterIsExclusiveOr() {
        CHECK.sentence("Promise 10", "A byte on the disk is altered by a mask (exclusive or; 1 .. 255), with or without"
                + " power.");
        for (int mask : new int[] {1, 128, 255}) {
            ServiceDisk x = Disks.threeRows();
            x.alter(0, 0, 9, mask);
            CHECK.due("altered by " + mask, 11, () -> x.read(0, 1));
            CHECK.due("so it is wrong", 1, () -> x.count(2));
            x.alter(0, 0, 9, mask);
            CHECK.due("altered again", 11, () -> x.read(0, 1));
            CHECK.due("so it is as it was", 1, () -> x.count(2));
        }
        ServiceDisk off = threeRowsWithoutPower();
        off.alter(0, 7, 511, 1);
        Disks.spoilBoth(off, 1);
        CHECK.notInThisState("there is still no power", () -> off.count(0));
        CHECK.due("altered without power", 2, off::start);
        ServiceDisk waits = Disks.threeRows();
        waits.cut(0, 0);
        waits.alter(0, 0, 0, 1);
        CHECK.due("it is no write that a cut comes with", 3, () -> waits.count(0));
    }

    private static void alterUnknown() {
        CHECK.sentence("Promise 10", "Unknown: no such copy, sector (without a disk there is none) or byte (0 .. 511)");
        for (int n : new int[] {8, 32}) {
            ServiceDisk x = Disks.formatted(n);
            for (int copy : new int[] {LOW, -1, 2, HIGH}) {
                CHECK.unknown("copy " + copy, () -> x.alter(copy, 0, 0, 1));
            }
            for (int sector : new int[] {LOW, -1, n, n + 1, HIGH}) {
                CHECK.unknown("sector " + sector + " of " + n, () -> x.alter(0, sector, 0, 1));
            }
            for (int at : new int[] {LOW, -1, 512, HIGH}) {
                CHECK.unknown("byte " + at, () -> x.alter(0, 0, at, 1));
            }
            Sectors.turn(x, 1, n - 1, Sectors.blank(), Sectors.ofState(2, 5));
            x.start();
            CHECK.due("the last sector of copy 1, up to its last byte", 5, x::state);
        }
        ServiceDisk none = new ServiceDisk();
        CHECK.unknown("without a disk", () -> none.alter(0, 0, 0, 1));
        CHECK.unknown("without a disk, ahead of the mask", () -> none.alter(1, 7, 511, 0));
    }

    private static void alterRange() {
        CHECK.sentence("Promise 10", "range: the mask.");
        ServiceDisk x = Disks.threeRows();
        for (int mask : new int[] {LOW, -1, 0, 256, 257, HIGH}) {
            CHECK.outOfRange("mask " + mask, () -> x.alter(0, 0, 0, mask));
        }
        CHECK.due("nothing was altered", 10, () -> x.read(0, 0));
        CHECK.due("in copy 0", 0, () -> x.count(2));
        ServiceDisk off = threeRowsWithoutPower();
        CHECK.outOfRange("without power", () -> off.alter(0, 0, 0, 256));
    }

    private static void readAnswersAByte() {
        CHECK.sentence("Promise 11", "Byte i of an acknowledged row that is read: what its sector has (i from 0 on)");
        ServiceDisk x = Disks.threeRows();
        CHECK.due("the first byte", 10, () -> x.read(0, 0));
        CHECK.due("the last byte", 11, () -> x.read(0, 1));
        CHECK.due("255 is not -1", 255, () -> x.read(1, 0));
        CHECK.due("of the last row", 3, () -> x.read(2, 2));
        byte[] is = Sectors.of(1, 3, 2, 10, 11, 5, 1, 255);
        Sectors.turn(x, 0, 0, is, Sectors.of(1, 3, 2, 254, 0, 5, 1, 128));
        CHECK.due("what its sector has now", 254, () -> x.read(0, 0));
        CHECK.due("0 there", 0, () -> x.read(0, 1));
        CHECK.due("128 there", 128, () -> x.read(1, 0));
    }

    private static void readBehind() {
        CHECK.sentence("Promise 11", "-1 behind it");
        ServiceDisk x = Disks.threeRows();
        CHECK.due("just behind", -1, () -> x.read(0, 2));
        CHECK.due("where the next row stands", -1, () -> x.read(0, 4));
        CHECK.due("behind the last row", -1, () -> x.read(2, 3));
        CHECK.due("the farthest", -1, () -> x.read(1, HIGH));
        CHECK.due("farther by a row's head", -1, () -> x.read(1, HIGH - 2));
    }

    private static void readLost() {
        CHECK.sentence("Promise 11", "-2: it is lost.");
        ServiceDisk x = Disks.threeRows();
        Disks.spoilBoth(x, 0);
        CHECK.due("the first row of the sector", -2, () -> x.read(0, 0));
        CHECK.due("the last row of the sector", -2, () -> x.read(1, 0));
        CHECK.due("behind a lost row", -2, () -> x.read(0, 2));
        CHECK.due("a row of another sector", 1, () -> x.read(2, 0));
    }

    private static void readUnknown() {
        CHECK.sentence("Promise 11", "Unknown: no such row is acknowledged");
        ServiceDisk x = Disks.threeRows();
        for (int row : new int[] {LOW, -1, 3, HIGH}) {
            CHECK.unknown("row " + row, () -> x.read(row, 0));
            CHECK.unknown("row " + row + " ahead of i", () -> x.read(row, -1));
        }
        x.row(0, 7, 1);
        CHECK.unknown("a row that waits", () -> x.read(3, 0));
        x.sync();
        CHECK.due("acknowledged", 7, () -> x.read(3, 0));
        Disks.spoilBoth(x, 1);
        x.start();
        CHECK.unknown("a row that a start did not find", () -> x.read(2, 0));
        CHECK.unknown("on an empty disk", () -> Disks.formatted(8).read(0, 0));
    }

    private static void readRange() {
        CHECK.sentence("Promise 11", "range: i is below 0");
        ServiceDisk x = Disks.threeRows();
        CHECK.outOfRange("-1", () -> x.read(0, -1));
        CHECK.outOfRange("the lowest", () -> x.read(2, LOW));
        Disks.spoilBoth(x, 0);
        CHECK.outOfRange("of a lost row", () -> x.read(0, -1));
        Disks.spoil(x, 0, 1);
        CHECK.outOfRange("of a row on copy 1", () -> x.read(2, -1));
        CHECK.due("which was not read", 0, () -> x.count(2));
    }

    private static void readPower() {
        CHECK.sentence("Promise 11", "state: no power (ahead of unknown).");
        for (ServiceDisk x : new ServiceDisk[] {new ServiceDisk(), threeRowsWithoutPower()}) {
            CHECK.notInThisState("a row", () -> x.read(0, 0));
            CHECK.notInThisState("no such row", () -> x.read(3, 0));
            CHECK.notInThisState("no row at all", () -> x.read(-1, -1));
            CHECK.notInThisState("i below 0", () -> x.read(0, -1));
        }
    }

    private static void kindAnswers() {
        CHECK.sentence("Promise 12", "An acknowledged row's kind, as read");
        ServiceDisk x = Disks.formatted(8);
        x.row(0, 9, 1);
        x.row(7, 9, 8);
        x.sync();
        CHECK.due("the lowest", 0, () -> x.kind(0));
        CHECK.due("the highest", 7, () -> x.kind(1));
        Disks.spoil(x, 0, 0);
        CHECK.due("from copy 1", 7, () -> x.kind(1));
        CHECK.due("which is told", 1, () -> x.count(2));
        ServiceDisk y = Disks.threeRows();
        byte[] is = Sectors.of(1, 3, 2, 10, 11, 5, 1, 255);
        Sectors.turn(y, 0, 0, is, Sectors.of(1, 0, 8, 1, 2, 200, 4, 5, 6, 7, 8));
        CHECK.due("the kind there", 0, () -> y.kind(0));
        CHECK.due("a byte that is now where a kind was", 200, () -> y.kind(1));
    }

    private static void kindLost() {
        CHECK.sentence("Promise 12", "-2: it is lost.");
        ServiceDisk x = Disks.threeRows();
        Disks.spoilBoth(x, 1);
        CHECK.due("lost", -2, () -> x.kind(2));
        CHECK.due("not lost", 5, () -> x.kind(1));
    }

    private static void kindUnknown() {
        CHECK.sentence("Promise 12", "Unknown: likewise");
        ServiceDisk x = Disks.threeRows();
        x.row(0, 7, 1);
        for (int row : new int[] {LOW, -1, 3, 4, HIGH}) {
            CHECK.unknown("row " + row, () -> x.kind(row));
        }
        CHECK.unknown("on an empty disk", () -> Disks.formatted(8).kind(0));
        Disks.spoilBoth(x, 0);
        x.start();
        CHECK.unknown("a row that a start did not find", () -> x.kind(0));
    }

    private static void kindPower() {
        CHECK.sentence("Promise 12", "state: no power (ahead of unknown).");
        for (ServiceDisk x : new ServiceDisk[] {new ServiceDisk(), threeRowsWithoutPower()}) {
            for (int row : new int[] {LOW, -1, 0, 3, HIGH}) {
                CHECK.notInThisState("row " + row, () -> x.kind(row));
            }
        }
    }

    private static void extractSums() {
        CHECK.sentence("Promise 13", "The sum of kinds and bytes of acknowledged rows from one to another one (itself"
                + " not), one behind the other");
        ServiceDisk x = Disks.threeRows();
        for (int row = 0; row <= 3; row++) {
            int at = row;
            CHECK.due("none at " + row, 0, () -> x.extract(at, at));
        }
        CHECK.due("the first alone", Sectors.sum(3, 10, 11), () -> x.extract(0, 1));
        CHECK.due("the last alone", Sectors.sum(1, 1, 2, 3), () -> x.extract(2, 3));
        CHECK.due("over two sectors", Sectors.sum(5, 255, 1, 1, 2, 3), () -> x.extract(1, 3));
        CHECK.due("all", Sectors.sum(3, 10, 11, 5, 255, 1, 1, 2, 3), () -> x.extract(0, 3));
        Disks.spoil(x, 0, 0);
        CHECK.due("partly from copy 1", Sectors.sum(5, 255, 1, 1, 2, 3), () -> x.extract(1, 3));
        CHECK.due("one row of it", 1, () -> x.count(2));
        x.extract(0, 3);
        CHECK.due("each row once", 3, () -> x.count(2));
    }

    private static void extractLeavesOutLost() {
        CHECK.sentence("Promise 13", "lost ones are left out.");
        ServiceDisk x = Disks.threeRows();
        Disks.spoilBoth(x, 0);
        CHECK.due("the first two", Sectors.sum(1, 1, 2, 3), () -> x.extract(0, 3));
        Disks.spoilBoth(x, 1);
        CHECK.due("all", 0, () -> x.extract(0, 3));
        Disks.spoilBoth(x, 0);
        CHECK.due("the last", Sectors.sum(3, 10, 11, 5, 255), () -> x.extract(0, 3));
        CHECK.due("lost ones are not read from copy 1", 0, () -> x.count(2));
    }

    private static void extractRange() {
        CHECK.sentence("Promise 13", "Range: they are not so (0 <= from <= to <= all)");
        ServiceDisk x = Disks.threeRows();
        x.row(0, 7, 1);
        int[][] wrong = {
            {-1, 0}, {-1, 3}, {-1, -1}, {1, 0}, {3, 2}, {0, -1}, {0, 4}, {3, 4}, {4, 4}, {4, 3}, {LOW, HIGH}, {HIGH, LOW},
            {HIGH, HIGH}, {LOW, LOW}, {0, HIGH}, {LOW, 0},
        };
        Disks.spoil(x, 0, 0);
        for (int[] pair : wrong) {
            CHECK.outOfRange(pair[0] + " to " + pair[1], () -> x.extract(pair[0], pair[1]));
        }
        CHECK.due("none was read", 0, () -> x.count(2));
        CHECK.due("from 0 to all", Sectors.sum(3, 10, 11, 5, 255, 1, 1, 2, 3), () -> x.extract(0, 3));
        ServiceDisk empty = Disks.formatted(8);
        CHECK.due("of none", 0, () -> empty.extract(0, 0));
        CHECK.outOfRange("above none", () -> empty.extract(0, 1));
    }

    private static void extractPower() {
        CHECK.sentence("Promise 13", "state: no power (ahead of the range).");
        for (ServiceDisk x : new ServiceDisk[] {new ServiceDisk(), threeRowsWithoutPower()}) {
            CHECK.notInThisState("none", () -> x.extract(0, 0));
            CHECK.notInThisState("backwards", () -> x.extract(1, 0));
            CHECK.notInThisState("below 0", () -> x.extract(-1, 0));
            CHECK.notInThisState("above all", () -> x.extract(0, 4));
        }
    }

    private static void lineIsUpOrDown() {
        CHECK.sentence("Promise 14", "The line is up, or down.");
        ServiceDisk x = Disks.withRows(3);
        x.line(false);
        CHECK.due("down", 0, () -> x.send(1));
        x.line(true);
        CHECK.due("up", 1, () -> x.send(1));
        x.line(false);
        CHECK.due("down again", 1, () -> x.send(1));
    }

    private static void lineIsSo() {
        CHECK.sentence("Promise 14", "State: it is so (or no power).");
        ServiceDisk x = Disks.withRows(2);
        CHECK.notInThisState("up at first", () -> x.line(true));
        x.line(false);
        CHECK.notInThisState("down", () -> x.line(false));
        CHECK.due("it stays down", 0, () -> x.send(1));
        x.line(true);
        CHECK.notInThisState("up", () -> x.line(true));
        CHECK.due("it stays up", 1, () -> x.send(1));
        for (ServiceDisk off : new ServiceDisk[] {new ServiceDisk(), Disks.withoutPower(8)}) {
            CHECK.notInThisState("no power, up", () -> off.line(true));
            CHECK.notInThisState("no power, down", () -> off.line(false));
        }
        ServiceDisk off = Disks.withoutPower(8);
        CHECK.notInThisState("no power", () -> off.line(false));
        off.start();
        CHECK.notInThisState("it was not put down", () -> off.line(true));
    }

    private static void sendTakesTheNext() {
        CHECK.sentence("Promise 15", "Sends the next n (0 .. 100) rows, as many as there are: how many are there then.");
        ServiceDisk x = Disks.withRows(205);
        CHECK.due("none", 0, () -> x.send(0));
        CHECK.due("one", 1, () -> x.send(1));
        CHECK.due("a hundred", 101, () -> x.send(100));
        x.line(false);
        CHECK.due("a hundred that are missing", 101, () -> x.send(100));
        CHECK.due("all but four are sent", 201, () -> x.count(7));
        x.line(true);
        CHECK.due("only four are left", 105, () -> x.send(100));
        CHECK.due("none is left", 105, () -> x.send(100));
        CHECK.due("all are sent", 205, () -> x.count(7));
        CHECK.due("the missing ones", 1010100, () -> x.gap(0));
        CHECK.due("on an empty disk", 0, () -> Disks.formatted(8).send(100));
        ServiceDisk lost = Disks.withUsed(8, 2);
        Disks.spoilBoth(lost, 0);
        Disks.spoil(lost, 0, 1);
        CHECK.due("sending reads no row", 2, () -> lost.send(2));
        CHECK.due("from copy 1", 0, () -> lost.count(2));
    }

    private static void sendRange() {
        CHECK.sentence("Promise 15", "Range: n");
        ServiceDisk x = Disks.withRows(150);
        for (int n : new int[] {LOW, -1, 101, HIGH}) {
            CHECK.outOfRange("send " + n, () -> x.send(n));
        }
        CHECK.due("none was sent", 0, () -> x.count(7));
        CHECK.due("0 is in the range", 0, () -> x.send(0));
        CHECK.due("100 is in the range", 100, () -> x.send(100));
    }

    private static void sendPower() {
        CHECK.sentence("Promise 15", "state: no power.");
        for (ServiceDisk x : new ServiceDisk[] {new ServiceDisk(), threeRowsWithoutPower()}) {
            CHECK.notInThisState("none", () -> x.send(0));
            CHECK.notInThisState("some", () -> x.send(100));
            CHECK.outOfRange("out of range", () -> x.send(101));
        }
        ServiceDisk x = threeRowsWithoutPower();
        CHECK.notInThisState("no power", () -> x.send(3));
        x.start();
        CHECK.due("none was sent", 0, () -> x.count(7));
    }

    private static void gapAnswers() {
        CHECK.sentence("Promise 16", "The i-th gap (0 first): rows side by side that were sent and are missing: 10,000"
                + " times the first of them, and how many");
        ServiceDisk x = Disks.withRows(12);
        Disks.sendSo(x, "--+-++---");
        CHECK.due("at row 0", 2, () -> x.gap(0));
        CHECK.due("one row", 30001, () -> x.gap(1));
        CHECK.due("up to the last that was sent", 60003, () -> x.gap(2));
        x.fill(1);
        CHECK.due("a gap whose first is filled", 10001, () -> x.gap(0));
        x.fill(1);
        CHECK.due("the next one is the first now", 30001, () -> x.gap(0));
        x.line(false);
        x.send(3);
        CHECK.due("rows sent beside it", 60006, () -> x.gap(1));
        ServiceDisk all = Disks.withRows(300);
        all.line(false);
        all.send(100);
        all.send(100);
        all.send(100);
        CHECK.due("all of many", 300, () -> all.gap(0));
        all.line(true);
        all.fill(100);
        all.fill(100);
        all.fill(99);
        CHECK.due("the last of many", 2990001, () -> all.gap(0));
    }

    private static void gapNotSoMany() {
        CHECK.sentence("Promise 16", "-1 when there are not so many.");
        ServiceDisk x = Disks.withRows(4);
        CHECK.due("nothing is sent", -1, () -> x.gap(0));
        x.send(1);
        CHECK.due("nothing is missing", -1, () -> x.gap(0));
        x.line(false);
        x.send(1);
        CHECK.due("one gap", 10001, () -> x.gap(0));
        CHECK.due("is not two", -1, () -> x.gap(1));
        CHECK.due("nor more than all", -1, () -> x.gap(HIGH));
        CHECK.due("on an empty disk", -1, () -> Disks.formatted(8).gap(0));
    }

    private static void gapRange() {
        CHECK.sentence("Promise 16", "Range: i is below 0");
        ServiceDisk x = Disks.withRows(2);
        x.line(false);
        x.send(1);
        CHECK.outOfRange("-1", () -> x.gap(-1));
        CHECK.outOfRange("the lowest", () -> x.gap(LOW));
        CHECK.due("0 is in the range", 1, () -> x.gap(0));
    }

    private static void gapPower() {
        CHECK.sentence("Promise 16", "state: no power (ahead of the range).");
        for (ServiceDisk x : new ServiceDisk[] {new ServiceDisk(), threeRowsWithoutPower()}) {
            for (int i : new int[] {LOW, -1, 0, HIGH}) {
                CHECK.notInThisState("gap " + i, () -> x.gap(i));
            }
        }
    }

    private static void fillAnswers() {
        CHECK.sentence("Promise 17", "Fills n (0 .. 100) missing ones, as many as there are: how many.");
        ServiceDisk x = Disks.withRows(203);
        x.send(1);
        x.line(false);
        x.send(100);
        x.send(100);
        x.line(true);
        CHECK.due("none", 0, () -> x.fill(0));
        CHECK.due("one", 1, () -> x.fill(1));
        CHECK.due("a hundred", 100, () -> x.fill(100));
        CHECK.due("99 are left", 99, () -> x.fill(100));
        CHECK.due("none is left", 0, () -> x.fill(100));
        CHECK.due("what was not sent is not filled", 201, () -> x.count(6));
        CHECK.due("on an empty disk", 0, () -> Disks.formatted(8).fill(100));
    }

    private static void fillRange() {
        CHECK.sentence("Promise 17", "Range: n");
        ServiceDisk x = Disks.withRows(150);
        x.line(false);
        x.send(100);
        x.send(50);
        x.line(true);
        for (int n : new int[] {LOW, -1, 101, HIGH}) {
            CHECK.outOfRange("fill " + n, () -> x.fill(n));
        }
        CHECK.due("none was filled", 0, () -> x.count(6));
        CHECK.due("0 is in the range", 0, () -> x.fill(0));
        CHECK.due("100 is in the range", 100, () -> x.fill(100));
    }

    private static void fillNeedsTheLine() {
        CHECK.sentence("Promise 17", "state: no power, or the line is down.");
        ServiceDisk x = Disks.withRows(3);
        x.line(false);
        x.send(2);
        CHECK.notInThisState("the line is down", () -> x.fill(1));
        CHECK.notInThisState("for none, too", () -> x.fill(0));
        CHECK.outOfRange("the range is ahead of it", () -> x.fill(101));
        CHECK.due("none was filled", 2, () -> x.gap(0));
        x.line(true);
        Disks.losePower(x);
        CHECK.notInThisState("no power", () -> x.fill(1));
        CHECK.outOfRange("the range is ahead of power", () -> x.fill(-1));
        x.start();
        CHECK.due("none was filled without power", 2, () -> x.gap(0));
        CHECK.due("then they are", 2, () -> x.fill(2));
        CHECK.notInThisState("no disk", () -> new ServiceDisk().fill(0));
    }

    private static void countAnswers() {
        CHECK.sentence("Promise 18", "How many 0 rows acknowledged, 1 rows that wait, 2 times a row was read from copy 1"
                + " since the disk was made, 3 sectors repaired since then (each copy of a start once), 4 sectors used,"
                + " 5 the state's number, 6 rows in the second room, 7 rows sent.");
        ServiceDisk x = Disks.withUsed(16, 8);
        Disks.addRows(x, 3, 0, 0, 1);
        x.sync();
        for (int number = 1; number <= 7; number++) {
            x.save(number);
        }
        Disks.spoil(x, 0, 0);
        Disks.spoil(x, 1, 1);
        Disks.spoil(x, 0, 15);
        x.start();
        Disks.spoil(x, 0, 3);
        x.read(3, 0);
        x.kind(3);
        x.extract(3, 5);
        x.read(3, 9);
        Disks.sendSo(x, "+--++++");
        x.line(false);
        x.send(3);
        x.row(0, 0, 1);
        long[] due = {11, 1, 4, 3, 9, 7, 5, 10};
        for (int what = 0; what < 8; what++) {
            int asked = what;
            CHECK.due("count " + what, due[what], () -> x.count(asked));
        }
        Disks.losePower(x);
        x.start();
        CHECK.due("reads are counted over a start", 4, () -> x.count(2));
        CHECK.due("so are repairs", 4, () -> x.count(3));
        x.format(8);
        for (int what = 0; what < 8; what++) {
            int asked = what;
            CHECK.due("a new disk, count " + what, 0, () -> x.count(asked));
        }
    }

    private static void countUnknown() {
        CHECK.sentence("Promise 18", "Unknown: no such what");
        ServiceDisk x = Disks.threeRows();
        for (int what : new int[] {LOW, -1, 8, HIGH}) {
            CHECK.unknown("count " + what, () -> x.count(what));
        }
        CHECK.due("the lowest", 3, () -> x.count(0));
        CHECK.due("the highest", 0, () -> x.count(7));
    }

    private static void countPower() {
        CHECK.sentence("Promise 18", "state: no power (ahead of unknown).");
        for (ServiceDisk x : new ServiceDisk[] {new ServiceDisk(), threeRowsWithoutPower()}) {
            for (int what : new int[] {LOW, -1, 0, 7, 8, HIGH}) {
                CHECK.notInThisState("count " + what, () -> x.count(what));
            }
        }
    }

    private ReadingEdgesTest() {}
}

/** Promises 14 to 17: line, send, gap, fill. */
public final class SecondRoomTest {
    private static final Check CHECK = new Check();

    public static void main(String[] args) {
        lineIsUpAtFirst();
        lineRefusesWhatIsSo();
        sendTakesItsRange();
        sendTakesTheNextInOrder();
        sendTakesAcknowledgedRowsOnly();
        sendReadsNoRow();
        sendWithTheLineDownMakesGaps();
        gapTellsRuns();
        gapAtTheEnds();
        gapRefusesBelowZero();
        fillTakesItsRange();
        fillTakesTheLowestFirst();
        fillNeedsTheLine();
        startLeavesTheRoom();
        startForgetsRowsThatAreNotAnyMore();
        CHECK.end("SecondRoomTest");
    }

    private static void lineIsUpAtFirst() {
        ServiceDisk x = Disks.withRows(1);
        CHECK.notInThisState("14 it is up", () -> x.line(true));
        CHECK.due("15 up", 1, () -> x.send(1));
    }

    private static void lineRefusesWhatIsSo() {
        ServiceDisk x = Disks.withRows(2);
        x.line(false);
        CHECK.notInThisState("14 it is down", () -> x.line(false));
        CHECK.due("15 refused changes nothing", 0, () -> x.send(1));
        x.line(true);
        CHECK.notInThisState("14 it is up", () -> x.line(true));
        CHECK.due("15 refused changes nothing", 1, () -> x.send(1));
        x.line(false);
        x.start();
        CHECK.notInThisState("14 it is down behind a start", () -> x.line(false));
    }

    private static void sendTakesItsRange() {
        ServiceDisk x = Disks.withRows(150);
        for (int n : new int[] {-1, 101, Integer.MIN_VALUE, Integer.MAX_VALUE}) {
            CHECK.outOfRange("15 send " + n, () -> x.send(n));
        }
        CHECK.due("15 none", 0, () -> x.send(0));
        CHECK.due("15 a hundred", 100, () -> x.send(100));
        CHECK.due("15 as many as there are", 150, () -> x.send(100));
        CHECK.due("15 no more", 150, () -> x.send(100));
        CHECK.due("18 sent", 150, () -> x.count(7));
    }

    private static void sendTakesTheNextInOrder() {
        ServiceDisk x = Disks.withRows(6);
        CHECK.due("15 two", 2, () -> x.send(2));
        x.line(false);
        CHECK.due("15 how many are there then", 2, () -> x.send(1));
        x.line(true);
        CHECK.due("15 two more", 4, () -> x.send(2));
        CHECK.due("18 sent", 5, () -> x.count(7));
        CHECK.due("18 there", 4, () -> x.count(6));
        CHECK.due("16 the third is missing", 20001, () -> x.gap(0));
    }

    private static void sendTakesAcknowledgedRowsOnly() {
        ServiceDisk x = Disks.withRows(2);
        x.row(0, 1, 1);
        CHECK.due("15 a row that waits is not sent", 2, () -> x.send(9));
        x.sync();
        CHECK.due("15 now it is", 3, () -> x.send(9));
    }

    private static void sendReadsNoRow() {
        ServiceDisk x = Disks.withRows(2);
        x.alter(0, 0, 300, 1);
        CHECK.due("15 sent", 1, () -> x.send(1));
        CHECK.due("15 no row is read", 0, () -> x.count(2));
        x.alter(1, 0, 300, 1);
        CHECK.due("15 a lost row is sent, too", 2, () -> x.send(1));
    }

    private static void sendWithTheLineDownMakesGaps() {
        ServiceDisk x = Disks.withRows(4);
        x.line(false);
        CHECK.due("15 none is there", 0, () -> x.send(3));
        CHECK.due("18 three are sent", 3, () -> x.count(7));
        CHECK.due("16 all three are missing", 3, () -> x.gap(0));
        CHECK.due("16 what was not sent is no gap", -1, () -> x.gap(1));
    }

    private static void gapTellsRuns() {
        ServiceDisk x = Disks.withRows(12);
        Disks.sendSo(x, "+--+---+-+");
        CHECK.due("16 gap 0", 10002, () -> x.gap(0));
        CHECK.due("16 gap 1", 40003, () -> x.gap(1));
        CHECK.due("16 gap 2", 80001, () -> x.gap(2));
        CHECK.due("16 no more", -1, () -> x.gap(3));
        CHECK.due("16 far", -1, () -> x.gap(Integer.MAX_VALUE));
    }

    private static void gapAtTheEnds() {
        ServiceDisk x = Disks.withRows(8);
        CHECK.due("16 nothing was sent", -1, () -> x.gap(0));
        Disks.sendSo(x, "--+--");
        CHECK.due("16 at the first row", 2, () -> x.gap(0));
        CHECK.due("16 at the last sent one", 30002, () -> x.gap(1));
        CHECK.due("16 no more", -1, () -> x.gap(2));
        ServiceDisk late = Disks.withRows(200);
        late.send(100);
        late.send(50);
        late.line(false);
        late.send(30);
        CHECK.due("16 with a high number", 1500030, () -> late.gap(0));
    }

    private static void gapRefusesBelowZero() {
        ServiceDisk x = Disks.withRows(1);
        CHECK.outOfRange("16 gap -1", () -> x.gap(-1));
        CHECK.outOfRange("16 lowest gap", () -> x.gap(Integer.MIN_VALUE));
    }

    private static void fillTakesItsRange() {
        ServiceDisk x = Disks.withRows(150);
        x.line(false);
        x.send(100);
        x.send(50);
        for (int n : new int[] {-1, 101, Integer.MIN_VALUE, Integer.MAX_VALUE}) {
            CHECK.outOfRange("17 range ahead of the line " + n, () -> x.fill(n));
        }
        x.line(true);
        CHECK.outOfRange("17 fill 101", () -> x.fill(101));
        CHECK.due("17 none", 0, () -> x.fill(0));
        CHECK.due("17 a hundred", 100, () -> x.fill(100));
        CHECK.due("17 the rest", 50, () -> x.fill(100));
        CHECK.due("17 no more", 0, () -> x.fill(100));
        CHECK.due("18 all are there", 150, () -> x.count(6));
    }

    private static void fillTakesTheLowestFirst() {
        ServiceDisk x = Disks.withRows(8);
        Disks.sendSo(x, "+--+--");
        CHECK.due("17 one", 1, () -> x.fill(1));
        CHECK.due("16 the lowest was filled", 20001, () -> x.gap(0));
        CHECK.due("17 two", 2, () -> x.fill(2));
        CHECK.due("16 over the gap's end", 50001, () -> x.gap(0));
        CHECK.due("18 there", 5, () -> x.count(6));
        CHECK.due("18 sent", 6, () -> x.count(7));
        CHECK.due("17 the last", 1, () -> x.fill(9));
        CHECK.due("16 no gap", -1, () -> x.gap(0));
        CHECK.due("17 what was not sent is not filled", 6, () -> x.count(6));
    }

    private static void fillNeedsTheLine() {
        ServiceDisk x = Disks.withRows(3);
        x.line(false);
        x.send(2);
        CHECK.notInThisState("17 the line is down", () -> x.fill(1));
        CHECK.notInThisState("17 the line is down, none", () -> x.fill(0));
        CHECK.due("16 refused changes nothing", 2, () -> x.gap(0));
    }

    private static void startLeavesTheRoom() {
        ServiceDisk x = Disks.withRows(8);
        Disks.sendSo(x, "+-++-");
        x.cut(0, 0);
        x.save(1);
        x.start();
        CHECK.due("9 there", 3, () -> x.count(6));
        CHECK.due("9 sent", 5, () -> x.count(7));
        CHECK.due("9 gap 0", 10001, () -> x.gap(0));
        CHECK.due("9 gap 1", 40001, () -> x.gap(1));
        CHECK.due("15 the next ones", 5, () -> x.send(2));
    }

    private static void startForgetsRowsThatAreNotAnyMore() {
        ServiceDisk x = Disks.formatted(8);
        for (int i = 0; i < 6; i++) {
            x.row(0, i, 1);
            x.sync();
        }
        Disks.sendSo(x, "+-+-+-");
        x.alter(0, 3, 0, 1);
        x.alter(1, 3, 0, 1);
        CHECK.due("18 lost rows are there before a start", 3, () -> x.count(6));
        CHECK.due("9 three are left", 3, x::start);
        CHECK.due("18 there", 2, () -> x.count(6));
        CHECK.due("18 sent", 3, () -> x.count(7));
        CHECK.due("16 one gap", 10001, () -> x.gap(0));
        CHECK.due("16 no more", -1, () -> x.gap(1));
        x.row(0, 77, 1);
        x.sync();
        CHECK.due("15 a new row with an old number", 3, () -> x.send(9));
        x.alter(0, 4, 1, 1);
        x.alter(1, 4, 1, 1);
        CHECK.due("9 four", 4, x::start);
        CHECK.due("16 the old gap is forgotten", -1, () -> x.gap(1));
    }

    private SecondRoomTest() {}
}

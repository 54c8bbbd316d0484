/** Promise 18: count. */
public final class CountTest {
    private static final Check CHECK = new Check();

    public static void main(String[] args) {
        countsOfANewDisk();
        countRefusesInOrder();
        everyCountIsItsOwn();
        repairsAreCountedForEachCopyOfAStart();
        CHECK.end("CountTest");
    }

    private static void countsOfANewDisk() {
        ServiceDisk x = Disks.formatted(8);
        for (int what = 0; what < 8; what++) {
            int count = what;
            CHECK.due("18 count " + what, 0, () -> x.count(count));
        }
    }

    private static void countRefusesInOrder() {
        ServiceDisk x = Disks.formatted(8);
        for (int what : new int[] {-1, 8, Integer.MIN_VALUE, Integer.MAX_VALUE}) {
            CHECK.unknown("18 count " + what, () -> x.count(what));
        }
        x.cut(0, 0);
        x.save(1);
        CHECK.notInThisState("18 no power", () -> x.count(0));
        CHECK.notInThisState("18 no power ahead of unknown", () -> x.count(8));
    }

    private static void everyCountIsItsOwn() {
        ServiceDisk x = Disks.formatted(12);
        for (int i = 0; i < 9; i++) {
            x.row(0, i, 1);
            if (i > 1) {
                x.sync();
            }
        }
        for (int i = 0; i < 6; i++) {
            x.save(i);
        }
        x.alter(0, 0, 300, 1);
        x.start();
        x.alter(0, 0, 300, 1);
        x.read(0, 0);
        x.kind(1);
        x.send(4);
        x.line(false);
        x.send(1);
        for (int i = 0; i < 3; i++) {
            x.row(0, i, 1);
        }
        long[] due = {9, 3, 2, 1, 7, 6, 4, 5};
        for (int what = 0; what < 8; what++) {
            int count = what;
            CHECK.due("18 count " + what, due[what], () -> x.count(count));
        }
    }

    private static void repairsAreCountedForEachCopyOfAStart() {
        ServiceDisk x = Disks.formatted(8);
        for (int i = 0; i < 3; i++) {
            x.row(0, i, 1);
            x.sync();
        }
        for (int turn = 1; turn <= 3; turn++) {
            int due = 3 * turn;
            x.alter(0, 0, 9, 1);
            x.alter(1, 1, 9, 1);
            x.alter(0, 2, 9, 1);
            x.start();
            CHECK.due("18 repaired in turn " + turn, due, () -> x.count(3));
        }
        x.alter(0, 2, 9, 1);
        x.alter(1, 2, 9, 1);
        x.start();
        CHECK.due("18 what is right in no copy is not repaired", 9, () -> x.count(3));
    }

    private CountTest() {}
}

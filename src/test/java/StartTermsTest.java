/** "Terms", cuts, starts, reading and the second room: a test for each sentence that names a boundary. */
public final class StartTermsTest {
    private static final Check CHECK = new Check();

    public static void main(String[] args) {
        cutComesWithAWrite();
        cutComesBehindSoManyWrites();
        cutWritesSoManyBytes();
        cutLeavesTheRest();
        cutTakesThePower();
        cutCallAnswers();
        startPutsPowerOn();
        startFindsRowsAsLongAsRight();
        startTakesCopyZeroElseCopyOne();
        startRepairs();
        startForgetsWhatWaited();
        startForgetsACut();
        startAcknowledgesAll();
        startGoesOnBehind();
        startTakesTheGreaterState();
        startRepairsStates();
        startWithoutAState();
        startCountsOnFromTheState();
        rowsAreReadWhereTheyWerePut();
        rowsAreReadWhereAStartFoundThem();
        rowsHaveTheBytesTheyHad();
        rowsAreReadFromOneCopy();
        rowsAreLost();
        roomHasAcknowledgedRows();
        sendingTakesTheNext();
        sendingByTheLine();
        fillingTakesTheLowest();
        startLeavesTheRoom();
        startForgetsRowsOfTheRoom();
        CHECK.end("StartTermsTest");
    }

    /** A row of one byte, told to be cut: what was done of it is on sector 0 of both copies. */
    private static ServiceDisk cutSync(int writes, int bytes) {
        ServiceDisk x = Disks.formatted(8);
        x.row(3, 0xAB, 1);
        x.cut(writes, bytes);
        x.sync();
        return x;
    }

    private static byte[] torn(byte[] before, byte[] whole, int bytes) {
        byte[] torn = before.clone();
        System.arraycopy(whole, 0, torn, 0, bytes);
        return torn;
    }

    private static void cutComesWithAWrite() {
        CHECK.sentence("Terms", "A CUT that is told comes with a write to come (of a sector to a copy)");
        ServiceDisk x = Disks.withUsed(8, 1);
        x.cut(0, 0);
        CHECK.due("a sync of nothing writes nothing", 1, x::sync);
        CHECK.due("nor does a row", 1, () -> x.row(0, 0, 1));
        CHECK.due("nor a read", 0, () -> x.read(0, 0));
        CHECK.due("nor does sending", 1, () -> x.send(1));
        x.alter(0, 0, 0, 1);
        x.alter(0, 0, 0, 1);
        CHECK.due("nor alter, so that power is on", 1, () -> x.count(0));
        CHECK.due("a save does", -1, () -> x.save(1));
        CHECK.due("which is gone", 1, x::start);
        CHECK.due("once", 1, () -> x.save(1));
    }

    private static void cutComesBehindSoManyWrites() {
        CHECK.sentence("Terms", "so many (0 .. 20) are done before it");
        for (int writes = 0; writes <= 20; writes++) {
            ServiceDisk x = Disks.formatted(8);
            x.cut(writes, 0);
            int saved = 0;
            while (saved < 30 && x.save(7) > 0) {
                saved++;
            }
            int whole = saved;
            CHECK.due("whole saves behind " + writes, writes / 2, () -> whole);
            x.start();
            CHECK.due("states behind " + writes, (writes + 1) / 2, () -> x.count(5));
        }
        ServiceDisk x = Disks.formatted(8);
        CHECK.outOfRange("21", () -> x.cut(21, 0));
        CHECK.outOfRange("-1", () -> x.cut(-1, 0));
        CHECK.due("no cut was told", 1, () -> x.save(7));
    }

    private static void cutWritesSoManyBytes() {
        CHECK.sentence("Terms", "of this one only so many bytes (0 .. 511) from the first on are written");
        byte[] whole = Sectors.of(1, 3, 1, 0xAB);
        for (int bytes = 0; bytes < 512; bytes++) {
            int at = bytes;
            ServiceDisk first = cutSync(0, bytes);
            Sectors.turn(first, 0, 0, torn(Sectors.blank(), whole, bytes), Sectors.of(1, 7, 1, 5));
            CHECK.due("copy 0 torn at " + at, 1, first::start);
            CHECK.due("turned so", 7, () -> first.kind(0));
            ServiceDisk second = cutSync(1, bytes);
            second.alter(0, 0, 0, 1);
            Sectors.turn(second, 1, 0, torn(Sectors.blank(), whole, bytes), Sectors.of(1, 6, 1, 5));
            CHECK.due("copy 1 torn at " + at, 1, second::start);
            CHECK.due("turned so", 6, () -> second.kind(0));
        }
        CHECK.due("511 bytes are not the whole sum", 0, () -> cutSync(0, 511).start());
        ServiceDisk x = Disks.formatted(8);
        CHECK.outOfRange("512", () -> x.cut(0, 512));
        CHECK.outOfRange("-1", () -> x.cut(0, -1));
    }

    private static void cutLeavesTheRest() {
        CHECK.sentence("Terms", "the rest is as it was");
        byte[] before = Sectors.ofState(1, 0x1111111111111111L);
        byte[] whole = Sectors.ofState(3, 0x2222222222222222L);
        for (int bytes : new int[] {0, 1, 3, 4, 6, 7, 13, 14, 300, 508, 509, 511}) {
            for (int copy = 0; copy < 2; copy++) {
                ServiceDisk x = Disks.formatted(8);
                x.save(0x1111111111111111L);
                x.save(7);
                x.cut(copy, bytes);
                x.save(0x2222222222222222L);
                Sectors.turn(x, copy, 6, torn(before, whole, bytes), Sectors.ofState(9, 10));
                x.alter(1 - copy, 6, 5, 1);
                x.start();
                CHECK.due("copy " + copy + " torn at " + bytes, 10, x::state);
                CHECK.due("repaired", 1, () -> x.count(3));
            }
        }
    }

    private static void cutTakesThePower() {
        CHECK.sentence("Terms", "then there is no power.");
        ServiceDisk x = cutSync(0, 511);
        CHECK.notInThisState("sync", x::sync);
        CHECK.notInThisState("state", x::state);
        CHECK.notInThisState("count", () -> x.count(0));
        ServiceDisk y = Disks.formatted(8);
        y.cut(1, 511);
        y.save(5);
        CHECK.notInThisState("save", () -> y.save(6));
        CHECK.notInThisState("cut", () -> y.cut(0, 0));
        ServiceDisk many = Disks.formatted(8);
        Disks.addRows(many, 100, 0, 0, 8);
        many.cut(0, 0);
        many.sync();
        Sectors.turn(many, 0, 1, Sectors.blank(), Sectors.of(2, 0, 1, 5));
        Sectors.turn(many, 0, 0, Sectors.blank(), Sectors.of(1, 0, 1, 5));
        CHECK.due("no write is done behind a cut", 2, many::start);
    }

    private static void cutCallAnswers() {
        CHECK.sentence("Terms", "The call in which this happens answers -1.");
        for (int writes = 0; writes < 2; writes++) {
            ServiceDisk x = Disks.formatted(8);
            x.row(0, 1, 1);
            x.cut(writes, 511);
            CHECK.due("a sync", -1, x::sync);
            ServiceDisk y = Disks.formatted(8);
            y.cut(writes, 511);
            CHECK.due("a save", -1, () -> y.save(5));
        }
        ServiceDisk x = Disks.formatted(8);
        x.row(0, 1, 1);
        x.cut(2, 0);
        CHECK.due("the sync before it", 1, x::sync);
        CHECK.due("the save with it", -1, () -> x.save(5));
    }

    private static void startPutsPowerOn() {
        CHECK.sentence("Terms", "A START: power is on");
        ServiceDisk x = Disks.withoutPower(8);
        x.start();
        CHECK.due("behind a cut", 0, x::sync);
        ServiceDisk y = Disks.formatted(8);
        y.start();
        CHECK.due("with power", 0, y::sync);
    }

    private static void startFindsRowsAsLongAsRight() {
        CHECK.sentence("Terms", "rows are those of sectors 0, 1, .., as long as each is right in some copy");
        CHECK.due("no sector is right", 0, () -> Disks.formatted(8).start());
        for (int wrong = 0; wrong < 6; wrong++) {
            int due = wrong;
            ServiceDisk x = Disks.withUsed(8, 6);
            Disks.spoilBoth(x, wrong);
            CHECK.due("sector " + wrong + " is wrong", due, x::start);
            CHECK.due("sectors used", due, () -> x.count(4));
            CHECK.unknown("the next row", () -> x.read(due, 0));
            Disks.spoilBoth(x, wrong);
            CHECK.due("it is right again", 6, x::start);
        }
        ServiceDisk full = Disks.withUsed(32, 30);
        full.save(5);
        full.save(6);
        CHECK.due("all sectors are right, those of states are not rows", 30, full::start);
    }

    private static void startTakesCopyZeroElseCopyOne() {
        CHECK.sentence("Terms", "(in copy 0, else in copy 1");
        byte[] is = Sectors.of(1, 0, 1, 0);
        ServiceDisk x = Disks.withUsed(8, 1);
        Sectors.turn(x, 0, 0, is, Sectors.of(1, 5, 1, 8, 6, 1, 9));
        CHECK.due("both are right: copy 0", 2, x::start);
        CHECK.due("its bytes", 9, () -> x.read(1, 0));
        CHECK.due("nothing is repaired", 0, () -> x.count(3));
        Disks.spoil(x, 0, 0);
        CHECK.due("copy 0 is wrong: copy 1", 1, x::start);
        CHECK.due("its kind", 0, () -> x.kind(0));
        ServiceDisk mixed = Disks.withUsed(8, 6);
        for (int sector = 0; sector < 6; sector++) {
            Disks.spoil(mixed, sector % 2, sector);
        }
        CHECK.due("each sector by itself", 6, mixed::start);
    }

    private static void startRepairs() {
        CHECK.sentence("Terms", "a copy that is not right is written from the other one: REPAIRED)");
        for (int copy = 0; copy < 2; copy++) {
            ServiceDisk x = Disks.withUsed(8, 1);
            x.alter(copy, 0, 0, 255);
            x.alter(copy, 0, 511, 255);
            x.start();
            CHECK.due("one copy", 1, () -> x.count(3));
            Sectors.turn(x, copy, 0, Sectors.of(1, 0, 1, 0), Sectors.of(1, 7, 1, 7));
            Disks.spoil(x, 1 - copy, 0);
            CHECK.due("all its bytes are as in the other one", 7, () -> x.kind(0));
        }
        ServiceDisk none = Disks.withUsed(8, 2);
        Disks.spoilBoth(none, 0);
        Disks.spoil(none, 1, 1);
        none.start();
        CHECK.due("none is right, and none behind it is looked at", 0, () -> none.count(3));
        ServiceDisk all = Disks.withUsed(32, 30);
        all.save(1);
        all.save(2);
        for (int sector = 0; sector < 32; sector++) {
            Disks.spoil(all, sector % 2, sector);
        }
        all.start();
        CHECK.due("every sector of the greatest disk", 32, () -> all.count(3));
        all.start();
        CHECK.due("they stay right", 32, () -> all.count(3));
    }

    private static void startForgetsWhatWaited() {
        CHECK.sentence("Terms", "what waited is forgotten");
        ServiceDisk x = Disks.withUsed(8, 1);
        Disks.addRows(x, 100, 0, 9, 1);
        CHECK.due("a hundred waited", 1, x::start);
        CHECK.due("none waits", 0, () -> x.count(1));
        CHECK.due("nothing is put", 1, x::sync);
        CHECK.due("the next row has their first number", 1, () -> x.row(0, 0, 1));
        ServiceDisk torn = cutSync(0, 0);
        CHECK.due("what waited at a cut", 0, torn::start);
        CHECK.due("is forgotten, too", 0, () -> torn.count(1));
        ServiceDisk half = cutSync(1, 0);
        CHECK.due("what was written is a row", 1, half::start);
        CHECK.due("and waits no more", 0, () -> half.count(1));
    }

    private static void startForgetsACut() {
        CHECK.sentence("Terms", "a cut that waits too");
        ServiceDisk x = Disks.withUsed(8, 1);
        x.cut(0, 0);
        x.start();
        CHECK.due("the next write is whole", 1, () -> x.save(5));
        Disks.spoil(x, 0, 0);
        Disks.spoil(x, 1, 6);
        x.cut(1, 0);
        CHECK.due("repairs are not cut", 1, x::start);
        CHECK.due("both", 2, () -> x.count(3));
        CHECK.due("nor what follows", 2, () -> x.save(6));
    }

    private static void startAcknowledgesAll() {
        CHECK.sentence("Terms", "all rows are acknowledged");
        ServiceDisk x = Disks.formatted(8);
        Disks.addRows(x, 60, 2, 9, 8);
        x.cut(3, 511);
        CHECK.due("cut in the last copy", -1, x::sync);
        CHECK.due("all are found", 60, x::start);
        CHECK.due("acknowledged", 60, () -> x.count(0));
        CHECK.due("the last one", 2, () -> x.kind(59));
        CHECK.unknown("no more", () -> x.kind(60));
        CHECK.due("they can be sent", 60, () -> x.send(100));
    }

    private static void startGoesOnBehind() {
        CHECK.sentence("Terms", "the next sectors follow.");
        ServiceDisk x = Disks.withUsed(8, 3);
        Disks.spoilBoth(x, 1);
        CHECK.due("one sector is left", 1, x::start);
        x.row(5, 77, 1);
        CHECK.due("the next sector is written again", 2, x::sync);
        CHECK.due("the new row", 77, () -> x.read(1, 0));
        CHECK.due("the sector behind it is found with it", 3, x::start);
        CHECK.due("with its old row", 2, () -> x.read(2, 0));
        ServiceDisk full = Disks.withUsed(8, 6);
        full.start();
        CHECK.noRoom("none follows", () -> full.row(0, 0, 1));
        ServiceDisk none = Disks.formatted(8);
        none.start();
        none.row(0, 1, 1);
        none.sync();
        CHECK.due("sector 0 is the next at first", 1, none::start);
    }

    private static void startTakesTheGreaterState() {
        CHECK.sentence("Terms", "the one with the greater number has the state");
        ServiceDisk x = Disks.formatted(8);
        for (int number = 1; number <= 4; number++) {
            int due = number;
            x.save(10 * number);
            x.start();
            CHECK.due("the latest", 10 * due, x::state);
            CHECK.due("its number", due, () -> x.count(5));
        }
        Disks.spoilBoth(x, 7);
        x.start();
        CHECK.due("the only one", 30, x::state);
        ServiceDisk copies = Disks.formatted(8);
        copies.save(10);
        copies.save(20);
        copies.cut(1, 0);
        copies.save(30);
        copies.start();
        CHECK.due("copy 0 tells the number of a sector", 30, copies::state);
        CHECK.due("though copy 1 is right and older", 0, () -> copies.count(3));
    }

    private static void startRepairsStates() {
        CHECK.sentence("Terms", "Of both state sectors (each as it is right in some copy, as for rows; repaired, too)");
        for (int copy = 0; copy < 2; copy++) {
            ServiceDisk x = Disks.formatted(8);
            x.save(10);
            x.save(20);
            Disks.spoil(x, copy, 6);
            Disks.spoil(x, copy, 7);
            x.start();
            CHECK.due("from the other copy", 20, x::state);
            CHECK.due("both are repaired, the older one too", 2, () -> x.count(3));
            Disks.spoil(x, 1 - copy, 6);
            Disks.spoil(x, 1 - copy, 7);
            x.start();
            CHECK.due("from the repaired copy", 20, x::state);
            CHECK.due("both again", 4, () -> x.count(3));
        }
    }

    private static void startWithoutAState() {
        CHECK.sentence("Terms", "without one it is 0 and has number 0.");
        ServiceDisk x = Disks.formatted(8);
        x.start();
        CHECK.due("none was saved", 0, x::state);
        CHECK.due("its number", 0, () -> x.count(5));
        x.save(5);
        x.save(6);
        Disks.spoilBoth(x, 6);
        Disks.spoilBoth(x, 7);
        CHECK.due("with power it is still there", 6, x::state);
        x.start();
        CHECK.due("both are wrong", 0, x::state);
        CHECK.due("its number then", 0, () -> x.count(5));
        CHECK.due("nothing is repaired", 0, () -> x.count(3));
    }

    private static void startCountsOnFromTheState() {
        CHECK.sentence("Terms", "The next state has the number behind that.");
        ServiceDisk x = Disks.formatted(8);
        x.start();
        CHECK.due("behind none", 1, () -> x.save(5));
        x.save(6);
        x.start();
        CHECK.due("behind 2", 3, () -> x.save(7));
        Disks.spoilBoth(x, 6);
        x.start();
        CHECK.due("behind 2, as 3 is gone", 3, () -> x.save(8));
        x.cut(0, 0);
        x.save(9);
        x.start();
        CHECK.due("behind 3, as 4 was cut", 4, () -> x.save(10));
        Sectors.turnBoth(x, 7, Sectors.ofState(4, 10), Sectors.ofState(Integer.MAX_VALUE, 1));
        x.start();
        CHECK.due("behind the greatest of all", Integer.MIN_VALUE, () -> x.save(2));
    }

    private static void rowsAreReadWhereTheyWerePut() {
        CHECK.sentence("Terms", "A row is READ where it stands (where it was put");
        ServiceDisk x = Disks.formatted(8);
        x.row(1, 0x0105, 2);
        x.row(2, 0x07, 1);
        x.sync();
        Sectors.turn(x, 0, 0, Sectors.of(1, 1, 2, 1, 5, 2, 1, 7), Sectors.of(1, 0, 1, 200));
        CHECK.due("the first row", 200, () -> x.read(0, 0));
        CHECK.due("its kind there", 0, () -> x.kind(0));
        CHECK.due("the second row, behind all that the sector has now", 0, () -> x.read(1, 0));
        CHECK.due("its kind", 0, () -> x.kind(1));
        CHECK.due("both", Sectors.sum(0, 200, 0, 0, 0), () -> x.extract(0, 2));
    }

    private static void rowsAreReadWhereAStartFoundThem() {
        CHECK.sentence("Terms", "or found by the latest start: its kind there");
        ServiceDisk x = Disks.formatted(8);
        x.row(1, 0x0105, 2);
        x.row(2, 0x07, 1);
        x.sync();
        Sectors.turn(x, 0, 0, Sectors.of(1, 1, 2, 1, 5, 2, 1, 7), Sectors.of(1, 3, 5, 1, 2, 3, 4, 5));
        CHECK.due("one row of five bytes", 1, x::start);
        CHECK.due("all of them", 5, () -> x.read(0, 4));
        Disks.spoil(x, 0, 0);
        CHECK.due("copy 1 is right with two rows, read as one of five bytes", 7, () -> x.read(0, 4));
        CHECK.due("its kind", 1, () -> x.kind(0));
        CHECK.due("the latest start tells", 2, x::start);
        CHECK.due("the second row", 2, () -> x.kind(1));
    }

    private static void rowsHaveTheBytesTheyHad() {
        CHECK.sentence("Terms", "and behind it and the number as many bytes as it had)");
        ServiceDisk x = Disks.formatted(8);
        x.row(1, 0x0102, 2);
        x.sync();
        Sectors.turn(x, 0, 0, Sectors.of(1, 1, 2, 1, 2), Sectors.of(1, 1, 8, 11, 12, 13, 14, 15, 16, 17, 18));
        CHECK.due("its last byte", 12, () -> x.read(0, 1));
        CHECK.due("the sector says more", -1, () -> x.read(0, 2));
        CHECK.due("an extract takes as many", Sectors.sum(1, 11, 12), () -> x.extract(0, 1));
        Sectors.turn(x, 0, 0, Sectors.of(1, 1, 8, 11, 12, 13, 14, 15, 16, 17, 18), Sectors.of(1, 1, 1, 9));
        CHECK.due("the sector says fewer", 0, () -> x.read(0, 1));
        ServiceDisk last = Disks.formatted(8);
        Disks.addRows(last, 49, 0, 0, 8);
        last.row(0, 0, 2);
        last.row(7, 0x0102030405060708L, 6);
        last.sync();
        CHECK.due("up to the sector's last byte of 502", 8, () -> last.read(50, 5));
        CHECK.due("and not into its sum", -1, () -> last.read(50, 6));
    }

    private static void rowsAreReadFromOneCopy() {
        CHECK.sentence("Terms", "from copy 0 when its sector is right there, else from copy 1 (told by count(2))");
        byte[] is = Sectors.of(1, 0, 1, 0);
        ServiceDisk x = Disks.withUsed(8, 1);
        Sectors.turn(x, 0, 0, is, Sectors.of(1, 5, 1, 50));
        Sectors.turn(x, 1, 0, is, Sectors.of(1, 6, 1, 60));
        CHECK.due("both are right", 50, () -> x.read(0, 0));
        CHECK.due("copy 0 is not told", 0, () -> x.count(2));
        Disks.spoil(x, 1, 0);
        CHECK.due("copy 0 alone is right", 5, () -> x.kind(0));
        CHECK.due("copy 0 alone is not told", 0, () -> x.count(2));
        Disks.spoil(x, 1, 0);
        Disks.spoil(x, 0, 0);
        CHECK.due("copy 1 alone is right", 60, () -> x.read(0, 0));
        CHECK.due("it is told", 1, () -> x.count(2));
        CHECK.due("its kind", 6, () -> x.kind(0));
        CHECK.due("each time", 2, () -> x.count(2));
    }

    private static void rowsAreLost() {
        CHECK.sentence("Terms", "when it is right in none it is LOST.");
        ServiceDisk x = Disks.withUsed(8, 2);
        Disks.spoilBoth(x, 0);
        CHECK.due("its bytes", -2, () -> x.read(0, 0));
        CHECK.due("its kind", -2, () -> x.kind(0));
        CHECK.due("it is no read from copy 1", 0, () -> x.count(2));
        CHECK.due("it is still acknowledged", 2, () -> x.count(0));
        CHECK.due("the other row is not lost", 1, () -> x.read(1, 0));
        Disks.spoil(x, 1, 0);
        CHECK.due("right in copy 1 again", 0, () -> x.read(0, 0));
    }

    private static void roomHasAcknowledgedRows() {
        CHECK.sentence("Terms", "THE SECOND ROOM has some of the acknowledged rows.");
        ServiceDisk x = Disks.formatted(8);
        CHECK.due("no rows", 0, () -> x.send(100));
        Disks.addRows(x, 3, 0, 0, 1);
        CHECK.due("rows that wait are not sent", 0, () -> x.send(100));
        CHECK.due("none is sent", 0, () -> x.count(7));
        x.sync();
        CHECK.due("none is there by itself", 0, () -> x.count(6));
        CHECK.due("now they are", 3, () -> x.send(100));
    }

    private static void sendingTakesTheNext() {
        CHECK.sentence("Terms", "SENDING takes the next ones in order");
        ServiceDisk x = Disks.withRows(5);
        Disks.sendSo(x, "+-+");
        CHECK.due("the second is missing", 10001, () -> x.gap(0));
        CHECK.due("three are sent", 3, () -> x.count(7));
        x.line(false);
        x.send(2);
        CHECK.due("the last two", 30002, () -> x.gap(1));
        CHECK.due("there is no next one", 2, () -> x.send(1));
        CHECK.due("all are sent", 5, () -> x.count(7));
    }

    private static void sendingByTheLine() {
        CHECK.sentence("Terms", "they are there when the LINE is up (at first), and missing when it is down.");
        ServiceDisk x = Disks.withRows(4);
        CHECK.due("up at first", 2, () -> x.send(2));
        CHECK.due("no gap", -1, () -> x.gap(0));
        x.line(false);
        CHECK.due("down", 2, () -> x.send(1));
        CHECK.due("missing", 20001, () -> x.gap(0));
        x.line(true);
        CHECK.due("up, what is missing stays so", 3, () -> x.send(1));
        CHECK.due("missing still", 20001, () -> x.gap(0));
    }

    private static void fillingTakesTheLowest() {
        CHECK.sentence("Terms", "FILLING sends missing ones, lowest first.");
        ServiceDisk x = Disks.withRows(7);
        Disks.sendSo(x, "-+--+-");
        CHECK.due("one", 1, () -> x.fill(1));
        CHECK.due("row 0 is there", 20002, () -> x.gap(0));
        CHECK.due("another", 1, () -> x.fill(1));
        CHECK.due("row 2 is there", 30001, () -> x.gap(0));
        CHECK.due("the others", 2, () -> x.fill(100));
        CHECK.due("none is missing", -1, () -> x.gap(0));
        CHECK.due("what was not sent is not there", 6, () -> x.count(6));
        CHECK.due("and not sent", 6, () -> x.count(7));
    }

    private static void startLeavesTheRoom() {
        CHECK.sentence("Terms", "(A start leaves the room");
        ServiceDisk x = Disks.withRows(6);
        Disks.sendSo(x, "+-+-");
        x.line(false);
        Disks.losePower(x);
        x.start();
        CHECK.due("there", 2, () -> x.count(6));
        CHECK.due("sent", 4, () -> x.count(7));
        CHECK.due("the first gap", 10001, () -> x.gap(0));
        CHECK.due("the second gap", 30001, () -> x.gap(1));
        CHECK.notInThisState("the line is down", () -> x.line(false));
        CHECK.due("the next ones are missing", 2, () -> x.send(2));
        CHECK.due("beside the second gap", 30003, () -> x.gap(1));
    }

    private static void startForgetsRowsOfTheRoom() {
        CHECK.sentence("Terms", "rows that are not any more are forgotten there, and count as not sent.)");
        ServiceDisk x = Disks.withUsed(8, 6);
        Disks.sendSo(x, "+-+--+");
        Disks.spoilBoth(x, 4);
        CHECK.due("four are left", 4, x::start);
        CHECK.due("there", 2, () -> x.count(6));
        CHECK.due("sent", 4, () -> x.count(7));
        CHECK.due("a gap is shorter", 30001, () -> x.gap(1));
        CHECK.due("no more gaps", -1, () -> x.gap(2));
        Disks.spoilBoth(x, 4);
        CHECK.due("six again", 6, x::start);
        CHECK.due("two are not sent", 4, () -> x.count(7));
        CHECK.due("the gap is as short", 30001, () -> x.gap(1));
        CHECK.due("they are sent anew", 4, () -> x.send(100));
        Disks.spoilBoth(x, 0);
        CHECK.due("none is left", 0, x::start);
        CHECK.due("none is there", 0, () -> x.count(6));
        CHECK.due("none is sent", 0, () -> x.count(7));
        CHECK.due("no gap", -1, () -> x.gap(0));
    }

    private StartTermsTest() {}
}

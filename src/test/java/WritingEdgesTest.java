/** Promises 1 to 9: a test for each of their sentences that names a boundary. */
public final class WritingEdgesTest {
    private static final Check CHECK = new Check();
    private static final int LOW = Integer.MIN_VALUE;
    private static final int HIGH = Integer.MAX_VALUE;

    public static void main(String[] args) {
        newObject();
        formatMakesADisk();
        formatLeavesNothing();
        formatRange();
        reserveIsTaken();
        reserveRange();
        reservePower();
        rowWaits();
        rowTakesTheLowestBytes();
        rowAnswersItsNumber();
        rowUnknown();
        rowRange();
        rowPower();
        rowRoom();
        syncAnswersAll();
        syncCut();
        syncPower();
        saveAnswersItsNumber();
        saveCut();
        savePower();
        stateAnswers();
        statePower();
        cutInPlaceOfAnother();
        cutRange();
        cutPower();
        startAnswersRows();
        startWithoutADisk();
        CHECK.end("WritingEdgesTest");
    }

    private static void newObject() {
        CHECK.sentence("Promise 1", "No disk.");
        ServiceDisk x = new ServiceDisk();
        CHECK.notInThisState("nothing to start", x::start);
        CHECK.notInThisState("nothing to count", () -> x.count(0));
        CHECK.unknown("no sector", () -> x.alter(0, 0, 0, 1));
        CHECK.notInThisState("the line is neither up", () -> x.line(true));
        CHECK.notInThisState("nor down", () -> x.line(false));
        ServiceDisk other = Disks.withUsed(8, 1);
        CHECK.notInThisState("nor by another object's disk", x::start);
        CHECK.due("which has its own", 1, other::start);
    }

    private static void formatMakesADisk() {
        CHECK.sentence("Promise 2", "A new disk, with power");
        ServiceDisk x = new ServiceDisk();
        x.format(8);
        CHECK.due("behind none", 0, () -> x.count(0));
        Disks.losePower(x);
        CHECK.notInThisState("no power", x::sync);
        x.format(32);
        CHECK.due("power behind a cut", 0, x::sync);
        x.alter(1, 31, 511, 1);
        x.format(8);
        CHECK.unknown("the disk before had more sectors", () -> x.alter(0, 8, 0, 1));
    }

    private static void formatLeavesNothing() {
        CHECK.sentence("Promise 2", "nothing of before is left (no rows, no state, the line is up, the reserve 2).");
        String due = Transcript.of(Disks.formatted(9));
        for (int before : new int[] {8, 9, 32}) {
            ServiceDisk x = usedUp(before);
            x.format(9);
            CHECK.same("all that is told behind a disk of " + before, due, Transcript.of(x));
        }
        ServiceDisk x = usedUp(9);
        x.format(9);
        CHECK.due("no rows", 0, () -> x.count(0));
        CHECK.due("none waits", 0, () -> x.count(1));
        CHECK.due("no state", 0, x::state);
        CHECK.notInThisState("the line is up", () -> x.line(true));
        CHECK.due("no cut waits", 1, () -> x.save(1));
        CHECK.due("no bytes", 0, x::start);
        Disks.useSectors(x, 4);
        CHECK.due("3 are left", 4, () -> x.row(4, 0, 1));
        x.sync();
        CHECK.noRoom("the reserve is 2", () -> x.row(4, 0, 1));
    }

    /** A disk with rows on all sectors, states, reads, repairs, gaps, a reserve, and a cut that waits. */
    private static ServiceDisk usedUp(int sectors) {
        ServiceDisk x = Disks.withUsed(sectors, sectors - 3);
        x.save(5);
        x.save(6);
        Disks.spoil(x, 0, 0);
        x.start();
        Disks.spoil(x, 0, 1);
        x.read(1, 0);
        Disks.sendSo(x, "+-+-");
        x.line(false);
        x.reserve(0);
        x.row(4, 7, 1);
        x.cut(0, 7);
        return x;
    }

    private static void formatRange() {
        CHECK.sentence("Promise 2", "Range: n.");
        ServiceDisk x = Disks.withUsed(8, 1);
        for (int n : new int[] {LOW, -8, -1, 0, 1, 7, 33, 64, HIGH}) {
            CHECK.outOfRange("format " + n, () -> x.format(n));
        }
        CHECK.due("the disk is as it was", 1, () -> x.count(0));
        for (int n = 8; n <= 32; n++) {
            x.format(n);
            CHECK.due("format " + n, 0, () -> x.count(0));
        }
    }

    private static void reserveIsTaken() {
        CHECK.sentence("Promise 3", "The reserve.");
        for (int sectors = 0; sectors <= 8; sectors++) {
            ServiceDisk x = Disks.formatted(12);
            x.reserve(sectors);
            Disks.useSectors(x, 9 - sectors);
            CHECK.due("one is left above " + sectors, 9 - sectors, () -> x.row(4, 0, 1));
            x.sync();
            CHECK.noRoom("none is left above " + sectors, () -> x.row(4, 0, 1));
        }
        ServiceDisk x = Disks.withUsed(8, 5);
        x.reserve(0);
        x.row(4, 0, 1);
        x.reserve(8);
        CHECK.due("reports that wait stay", 6, x::sync);
    }

    private static void reserveRange() {
        CHECK.sentence("Promise 3", "Range: it is not so");
        ServiceDisk x = Disks.withUsed(8, 4);
        for (int sectors : new int[] {LOW, -1, 9, HIGH}) {
            CHECK.outOfRange("reserve " + sectors, () -> x.reserve(sectors));
        }
        CHECK.noRoom("it is 2 as before", () -> x.row(4, 0, 1));
        x.reserve(8);
        x.reserve(0);
        CHECK.due("0 is taken", 4, () -> x.row(4, 0, 1));
    }

    private static void reservePower() {
        CHECK.sentence("Promise 3", "state: no power.");
        CHECK.notInThisState("no disk", () -> new ServiceDisk().reserve(2));
        ServiceDisk x = Disks.withUsed(8, 4);
        Disks.losePower(x);
        CHECK.notInThisState("behind a cut", () -> x.reserve(0));
        x.start();
        CHECK.noRoom("it is as it was", () -> x.row(4, 0, 1));
    }

    private static void rowWaits() {
        CHECK.sentence("Promise 4", "One more row, that waits");
        ServiceDisk x = Disks.formatted(8);
        for (int i = 1; i <= 100; i++) {
            int due = i;
            x.row(0, 0, 1);
            CHECK.due("one more", due, () -> x.count(1));
        }
        CHECK.due("none is acknowledged", 0, () -> x.count(0));
        CHECK.due("no sector is used", 0, () -> x.count(4));
    }

    private static void rowTakesTheLowestBytes() {
        CHECK.sentence("Promise 4", "(n bytes: the lowest n, the highest of these first)");
        ServiceDisk x = Disks.formatted(8);
        for (int n = 1; n <= 8; n++) {
            x.row(0, 0x80A1B2C3D4E5F6FFL, n);
        }
        x.sync();
        int[] bytes = {0x80, 0xA1, 0xB2, 0xC3, 0xD4, 0xE5, 0xF6, 0xFF};
        for (int n = 1; n <= 8; n++) {
            int row = n - 1;
            for (int i = 0; i < n; i++) {
                int at = i;
                CHECK.due("byte " + i + " of " + n, bytes[8 - n + i], () -> x.read(row, at));
            }
            int behind = n;
            CHECK.due("behind " + n, -1, () -> x.read(row, behind));
        }
    }

    private static void rowAnswersItsNumber() {
        CHECK.sentence("Promise 4", "its number.");
        ServiceDisk x = Disks.formatted(8);
        CHECK.due("the first", 0, () -> x.row(0, 0, 1));
        CHECK.due("one waits", 1, () -> x.row(7, 0, 8));
        x.sync();
        CHECK.due("two are acknowledged", 2, () -> x.row(0, 0, 1));
        CHECK.due("and one waits", 3, () -> x.row(0, 0, 1));
        x.start();
        CHECK.due("those that waited are forgotten", 2, () -> x.row(0, 9, 1));
        x.sync();
        CHECK.due("the number is the row's", 9, () -> x.read(2, 0));
    }

    private static void rowUnknown() {
        CHECK.sentence("Promise 4", "Unknown: no such kind");
        ServiceDisk x = Disks.formatted(8);
        for (int kind : new int[] {LOW, -1, 8, HIGH}) {
            CHECK.unknown("kind " + kind, () -> x.row(kind, 0, 1));
            CHECK.unknown("kind " + kind + " and n", () -> x.row(kind, 0, 0));
            CHECK.unknown("kind " + kind + " and no disk", () -> new ServiceDisk().row(kind, 0, 1));
        }
        CHECK.due("the lowest kind", 0, () -> x.row(0, 0, 1));
        CHECK.due("the highest kind", 1, () -> x.row(7, 0, 1));
    }

    private static void rowRange() {
        CHECK.sentence("Promise 4", "range: n");
        ServiceDisk x = Disks.formatted(8);
        for (int n : new int[] {LOW, -1, 0, 9, HIGH}) {
            CHECK.outOfRange("n " + n, () -> x.row(0, 0, n));
            CHECK.outOfRange("n " + n + " and no disk", () -> new ServiceDisk().row(0, 0, n));
        }
        CHECK.due("the lowest n", 0, () -> x.row(0, 0, 1));
        CHECK.due("the highest n", 1, () -> x.row(0, 0, 8));
    }

    private static void rowPower() {
        CHECK.sentence("Promise 4", "state: no power");
        CHECK.notInThisState("no disk", () -> new ServiceDisk().row(0, 0, 1));
        ServiceDisk x = Disks.withUsed(8, 6);
        CHECK.noRoom("with power there is no room", () -> x.row(0, 0, 1));
        Disks.losePower(x);
        CHECK.notInThisState("behind a cut", () -> x.row(0, 0, 1));
    }

    private static void rowRoom() {
        CHECK.sentence("Promise 4", "no room: as above.");
        ServiceDisk hundred = Disks.formatted(32);
        Disks.addRows(hundred, 100, 0, 0, 1);
        CHECK.noRoom("a hundred wait", () -> hundred.row(0, 0, 1));
        ServiceDisk full = Disks.withUsed(8, 6);
        CHECK.noRoom("no sector is left", () -> full.row(0, 0, 1));
        ServiceDisk held = Disks.withUsed(8, 4);
        CHECK.noRoom("the reserve is left", () -> held.row(4, 0, 1));
        CHECK.due("for a call", 4, () -> held.row(3, 0, 1));
    }

    private static void syncAnswersAll() {
        CHECK.sentence("Promise 5", "Syncs: how many rows are acknowledged in all");
        ServiceDisk x = Disks.formatted(8);
        CHECK.due("none in all", 0, x::sync);
        x.row(0, 0, 1);
        CHECK.due("one", 1, x::sync);
        CHECK.due("one in all, when none waited", 1, x::sync);
        Disks.addRows(x, 100, 0, 0, 1);
        CHECK.due("a hundred more", 101, x::sync);
        x.start();
        CHECK.due("found by a start", 101, x::sync);
        Disks.spoilBoth(x, 1);
        x.start();
        CHECK.due("those that are left", 1, x::sync);
    }

    private static void syncCut() {
        CHECK.sentence("Promise 5", "-1: it was cut.");
        for (int writes = 0; writes < 5; writes++) {
            int due = writes < 4 ? -1 : 100;
            ServiceDisk x = Disks.formatted(8);
            Disks.addRows(x, 100, 0, 0, 8);
            x.cut(writes, 511);
            CHECK.due("two sectors, cut behind " + writes, due, x::sync);
        }
        ServiceDisk none = Disks.formatted(8);
        none.cut(0, 0);
        CHECK.due("nothing is written, nothing is cut", 0, none::sync);
    }

    private static void syncPower() {
        CHECK.sentence("Promise 5", "State: no power.");
        CHECK.notInThisState("no disk", () -> new ServiceDisk().sync());
        ServiceDisk x = Disks.withoutPower(8);
        CHECK.notInThisState("behind a cut", x::sync);
        CHECK.notInThisState("still", x::sync);
    }

    private static void saveAnswersItsNumber() {
        CHECK.sentence("Promise 6", "Saves a state: its number");
        ServiceDisk x = Disks.withUsed(8, 6);
        CHECK.due("the first, on a full disk", 1, () -> x.save(0));
        CHECK.due("the same once more", 2, () -> x.save(0));
        CHECK.due("the lowest", 3, () -> x.save(Long.MIN_VALUE));
        CHECK.due("the highest", 4, () -> x.save(Long.MAX_VALUE));
        CHECK.due("the rows are left alone", 6, x::start);
        CHECK.due("the state", Long.MAX_VALUE, x::state);
    }

    private static void saveCut() {
        CHECK.sentence("Promise 6", "-1: it was cut.");
        for (int writes = 0; writes < 3; writes++) {
            int due = writes < 2 ? -1 : 1;
            ServiceDisk x = Disks.formatted(8);
            x.cut(writes, 511);
            CHECK.due("cut behind " + writes, due, () -> x.save(5));
        }
    }

    private static void savePower() {
        CHECK.sentence("Promise 6", "State: no power.");
        CHECK.notInThisState("no disk", () -> new ServiceDisk().save(0));
        ServiceDisk x = Disks.withoutPower(8);
        CHECK.notInThisState("behind a cut", () -> x.save(0));
        x.start();
        CHECK.due("it was not saved", 0, () -> x.count(5));
    }

    private static void stateAnswers() {
        CHECK.sentence("Promise 7", "The state.");
        ServiceDisk x = Disks.formatted(8);
        CHECK.due("none", 0, x::state);
        x.save(Long.MIN_VALUE);
        CHECK.due("the lowest", Long.MIN_VALUE, x::state);
        x.save(-1);
        CHECK.due("-1 is a state", -1, x::state);
        x.cut(0, 511);
        CHECK.due("cut", -1, () -> x.save(7));
        x.start();
        CHECK.due("the one before the cut", -1, x::state);
        x.cut(1, 0);
        x.save(8);
        x.start();
        CHECK.due("the one that was cut in copy 1", 8, x::state);
    }

    private static void statePower() {
        CHECK.sentence("Promise 7", "State: no power.");
        CHECK.notInThisState("no disk", () -> new ServiceDisk().state());
        ServiceDisk x = Disks.withoutPower(8);
        CHECK.notInThisState("behind a cut", x::state);
        x.start();
        CHECK.due("behind a start", 0, x::state);
    }

    private static void cutInPlaceOfAnother() {
        CHECK.sentence("Promise 8", "Tells a cut (in place of one that waits).");
        ServiceDisk later = Disks.formatted(8);
        later.cut(0, 0);
        later.cut(2, 0);
        CHECK.due("a later one", 1, () -> later.save(5));
        CHECK.due("comes", -1, () -> later.save(6));
        later.start();
        CHECK.due("once", 2, () -> later.save(7));
        ServiceDisk sooner = Disks.formatted(8);
        sooner.cut(20, 0);
        sooner.save(4);
        sooner.cut(0, 0);
        CHECK.due("a sooner one", -1, () -> sooner.save(5));
        ServiceDisk bytes = Disks.formatted(8);
        bytes.cut(0, 511);
        bytes.cut(0, 0);
        bytes.save(5);
        Sectors.turn(bytes, 0, 6, Sectors.blank(), Sectors.ofState(3, 9));
        bytes.start();
        CHECK.due("with its own bytes", 9, bytes::state);
    }

    private static void cutRange() {
        CHECK.sentence("Promise 8", "Range: writes, bytes");
        ServiceDisk x = Disks.formatted(8);
        x.cut(2, 508);
        for (int writes : new int[] {LOW, -1, 21, HIGH}) {
            CHECK.outOfRange("writes " + writes, () -> x.cut(writes, 5));
        }
        for (int bytes : new int[] {LOW, -1, 512, HIGH}) {
            CHECK.outOfRange("bytes " + bytes, () -> x.cut(0, bytes));
            CHECK.outOfRange("both " + bytes, () -> x.cut(bytes, bytes));
        }
        CHECK.due("the one that waits stays: two writes", 1, () -> x.save(5));
        CHECK.due("then it comes", -1, () -> x.save(6));
        byte[] whole = Sectors.ofState(2, 6);
        byte[] torn = whole.clone();
        for (int at = 508; at < 512; at++) {
            torn[at] = 0;
        }
        Sectors.turn(x, 0, 7, torn, whole);
        x.start();
        CHECK.due("at its byte", 6, x::state);
        ServiceDisk edges = Disks.formatted(8);
        edges.cut(20, 511);
        edges.cut(0, 0);
        CHECK.due("the edges are in the range", -1, () -> edges.save(1));
    }

    private static void cutPower() {
        CHECK.sentence("Promise 8", "state: no power.");
        CHECK.notInThisState("no disk", () -> new ServiceDisk().cut(0, 0));
        ServiceDisk x = Disks.withoutPower(8);
        CHECK.notInThisState("behind a cut", () -> x.cut(20, 511));
        x.start();
        CHECK.due("none was told", 1, () -> x.save(1));
        ServiceDisk made = new ServiceDisk();
        CHECK.notInThisState("before a disk", () -> made.cut(0, 0));
        made.format(8);
        CHECK.due("none was told there", 1, () -> made.save(1));
    }

    private static void startAnswersRows() {
        CHECK.sentence("Promise 9", "Starts (also with power): how many rows there are.");
        ServiceDisk x = Disks.formatted(8);
        CHECK.due("none, with power", 0, x::start);
        x.row(0, 0, 1);
        CHECK.due("one that waits is none", 0, x::start);
        x.row(0, 0, 1);
        x.sync();
        CHECK.due("one, with power", 1, x::start);
        CHECK.due("one, again", 1, x::start);
        Disks.losePower(x);
        CHECK.due("one, without power", 1, x::start);
        ServiceDisk full = Disks.formatted(8);
        for (int sector = 0; sector < 4; sector++) {
            Disks.addRows(full, 100, 0, 0, 1);
            full.sync();
        }
        CHECK.due("many", 400, full::start);
    }

    private static void startWithoutADisk() {
        CHECK.sentence("Promise 9", "State: no disk.");
        ServiceDisk x = new ServiceDisk();
        CHECK.notInThisState("a new object", x::start);
        CHECK.outOfRange("a refused disk", () -> x.format(7));
        CHECK.notInThisState("is none", x::start);
        x.format(8);
        CHECK.due("a disk", 0, x::start);
    }

    private WritingEdgesTest() {}
}

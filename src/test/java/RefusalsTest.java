import java.util.ArrayList;
import java.util.List;
import java.util.function.Consumer;
import java.util.function.Supplier;

/** "Terms", refusals: their order, that they change nothing, and what is refused without power. */
public final class RefusalsTest {
    private static final Check CHECK = new Check();
    private static final int LOW = Integer.MIN_VALUE;
    private static final int HIGH = Integer.MAX_VALUE;

    /** A call that must be refused, with the exception that is due. */
    private record Refused(String call, Class<? extends RuntimeException> due, Consumer<ServiceDisk> made) {}

    public static void main(String[] args) {
        refusalsComeInOrder();
        refusalsChangeNothing();
        noDiskIsNoPower();
        noPowerBehindACut();
        fiveHundredAndTwelveCalls();
        CHECK.end("RefusalsTest");
    }

    private static Refused unknown(String call, Consumer<ServiceDisk> made) {
        return new Refused(call, IllegalArgumentException.class, made);
    }

    private static Refused range(String call, Consumer<ServiceDisk> made) {
        return new Refused(call, IndexOutOfBoundsException.class, made);
    }

    private static Refused state(String call, Consumer<ServiceDisk> made) {
        return new Refused(call, IllegalStateException.class, made);
    }

    private static Refused noRoom(String call, Consumer<ServiceDisk> made) {
        return new Refused(call, UnsupportedOperationException.class, made);
    }

    private static void refusalsComeInOrder() {
        CHECK.sentence("Terms", "Refusals, in this order: an unknown number: IllegalArgumentException; a number outside"
                + " its range: IndexOutOfBoundsException; not in this state: IllegalStateException; no room:"
                + " UnsupportedOperationException.");
        ServiceDisk off = Disks.withUsed(8, 6);
        CHECK.noRoom("no room alone", () -> off.row(0, 0, 1));
        Disks.losePower(off);
        CHECK.unknown("kind, n, power and room", () -> off.row(8, 0, 9));
        CHECK.outOfRange("n, power and room", () -> off.row(0, 0, 9));
        CHECK.notInThisState("power and room", () -> off.row(0, 0, 8));
        CHECK.outOfRange("reserve and power", () -> off.reserve(9));
        CHECK.outOfRange("writes and power", () -> off.cut(21, 0));
        CHECK.outOfRange("bytes and power", () -> off.cut(20, 512));
        CHECK.outOfRange("send and power", () -> off.send(101));
        CHECK.outOfRange("fill and power", () -> off.fill(101));
        CHECK.unknown("copy and mask", () -> off.alter(2, 0, 0, 0));
        CHECK.unknown("sector and mask", () -> off.alter(1, 8, 0, 256));
        CHECK.unknown("byte and mask", () -> off.alter(1, 7, 512, 256));
        CHECK.outOfRange("mask alone", () -> off.alter(1, 7, 511, 256));
        off.start();
        CHECK.unknown("row and i", () -> off.read(6, -1));
        CHECK.outOfRange("i alone", () -> off.read(5, -1));
        CHECK.unknown("kind, n and room", () -> off.row(-1, 0, 0));
        CHECK.outOfRange("n and room", () -> off.row(7, 0, 0));
        off.line(false);
        CHECK.outOfRange("fill and the line", () -> off.fill(-1));
        CHECK.notInThisState("the line alone", () -> off.fill(0));
    }

    /** What is refused in every state, since the numbers alone are wrong. */
    private static List<Refused> byNumbers(int sectors) {
        List<Refused> all = new ArrayList<>();
        for (int n : new int[] {LOW, -1, 0, 7, 33, HIGH}) {
            all.add(range("format " + n, x -> x.format(n)));
        }
        for (int n : new int[] {LOW, -1, 9, HIGH}) {
            all.add(range("reserve " + n, x -> x.reserve(n)));
            all.add(range("row of bytes " + n, x -> x.row(0, 0, n)));
        }
        all.add(range("row of no bytes", x -> x.row(7, 0, 0)));
        for (int n : new int[] {LOW, -1, 8, HIGH}) {
            all.add(unknown("row of kind " + n, x -> x.row(n, 0, 1)));
        }
        for (int n : new int[] {LOW, -1, 21, HIGH}) {
            all.add(range("cut of writes " + n, x -> x.cut(n, 0)));
        }
        for (int n : new int[] {LOW, -1, 512, HIGH}) {
            all.add(range("cut of bytes " + n, x -> x.cut(0, n)));
            all.add(unknown("alter at byte " + n, x -> x.alter(0, 0, n, 1)));
        }
        for (int n : new int[] {LOW, -1, 2, HIGH}) {
            all.add(unknown("alter in copy " + n, x -> x.alter(n, 0, 0, 1)));
        }
        for (int n : new int[] {LOW, -1, sectors, HIGH}) {
            all.add(unknown("alter on sector " + n, x -> x.alter(0, n, 0, 1)));
        }
        for (int n : new int[] {LOW, -1, 101, HIGH}) {
            all.add(range("send " + n, x -> x.send(n)));
            all.add(range("fill " + n, x -> x.fill(n)));
        }
        return all;
    }

    private static List<Refused> byMasks() {
        List<Refused> all = new ArrayList<>();
        for (int n : new int[] {LOW, -1, 0, 256, HIGH}) {
            all.add(range("alter by mask " + n, x -> x.alter(0, 0, 0, n)));
        }
        return all;
    }

    /** What tells of state, and is refused without power; also where the numbers are wrong, if power is ahead of them. */
    private static List<Refused> byPower() {
        List<Refused> all = new ArrayList<>();
        all.add(state("reserve", x -> x.reserve(0)));
        all.add(state("row", x -> x.row(0, 5, 1)));
        all.add(state("sync", ServiceDisk::sync));
        all.add(state("save", x -> x.save(6)));
        all.add(state("state", ServiceDisk::state));
        all.add(state("cut", x -> x.cut(0, 0)));
        all.add(state("line up", x -> x.line(true)));
        all.add(state("line down", x -> x.line(false)));
        all.add(state("send", x -> x.send(1)));
        all.add(state("send none", x -> x.send(0)));
        all.add(state("fill", x -> x.fill(1)));
        all.add(state("fill none", x -> x.fill(0)));
        for (int n : new int[] {LOW, -1, 0, 1, HIGH}) {
            all.add(state("read " + n, x -> x.read(n, 0)));
            all.add(state("read byte " + n, x -> x.read(0, n)));
            all.add(state("kind " + n, x -> x.kind(n)));
            all.add(state("extract from " + n, x -> x.extract(n, 0)));
            all.add(state("extract to " + n, x -> x.extract(0, n)));
            all.add(state("gap " + n, x -> x.gap(n)));
        }
        for (int n : new int[] {LOW, -1, 0, 1, 2, 3, 4, 5, 6, 7, 8, HIGH}) {
            all.add(state("count " + n, x -> x.count(n)));
        }
        return all;
    }

    /** What is refused with power since there are no such rows, bytes, gaps and counts. */
    private static List<Refused> byRows(int rows) {
        List<Refused> all = new ArrayList<>();
        for (int n : new int[] {LOW, -1, rows, HIGH}) {
            all.add(unknown("read " + n, x -> x.read(n, 0)));
            all.add(unknown("kind " + n, x -> x.kind(n)));
        }
        for (int n : new int[] {LOW, -1}) {
            all.add(range("read byte " + n, x -> x.read(rows - 1, n)));
            all.add(range("extract from " + n, x -> x.extract(n, rows)));
            all.add(range("extract to " + n, x -> x.extract(0, n)));
            all.add(range("gap " + n, x -> x.gap(n)));
        }
        all.add(range("extract to one too many", x -> x.extract(0, rows + 1)));
        all.add(range("extract to the highest", x -> x.extract(rows, HIGH)));
        all.add(range("extract backwards", x -> x.extract(rows, rows - 1)));
        for (int n : new int[] {LOW, -1, 8, HIGH}) {
            all.add(unknown("count " + n, x -> x.count(n)));
        }
        return all;
    }

    /** Each call is refused on a twin of its own, which must tell the same as one that never had the call. */
    private static void nothingChanges(String where, Supplier<ServiceDisk> made, List<Refused> calls) {
        String due = Transcript.of(made.get());
        ServiceDisk all = made.get();
        for (Refused call : calls) {
            ServiceDisk one = made.get();
            CHECK.refused(where + ", " + call.call, call.due, () -> call.made.accept(one));
            CHECK.same(where + ", behind " + call.call, due, Transcript.of(one));
            CHECK.refused(where + ", all: " + call.call, call.due, () -> call.made.accept(all));
        }
        CHECK.same(where + ", behind all", due, Transcript.of(all));
    }

    /** Rows on three sectors, one of them wrong in copy 0; rows that wait, a state, gaps, a reserve and a cut. */
    private static ServiceDisk busy(boolean up) {
        ServiceDisk x = Disks.formatted(9);
        x.reserve(1);
        x.row(6, 0xA1, 1);
        x.row(1, 0xA2A3, 2);
        x.sync();
        Disks.useSectors(x, 2);
        Disks.sendSo(x, "+-+");
        x.save(7);
        x.save(8);
        Disks.spoil(x, 0, 0);
        Disks.spoil(x, 1, 2);
        x.row(2, 0xB1, 1);
        x.cut(3, 100);
        if (!up) {
            x.line(false);
        }
        return x;
    }

    private static ServiceDisk busyWithoutPower() {
        ServiceDisk x = busy(true);
        x.cut(1, 9);
        x.sync();
        return x;
    }

    private static ServiceDisk busyWithAHundred() {
        ServiceDisk x = busy(true);
        Disks.addRows(x, 99, 0, 0, 1);
        return x;
    }

    private static ServiceDisk full() {
        ServiceDisk x = Disks.withUsed(8, 6);
        x.cut(1, 1);
        return x;
    }

    private static void refusalsChangeNothing() {
        CHECK.sentence("Terms", "What is refused changes nothing.");
        List<Refused> withPower = byNumbers(9);
        withPower.addAll(byMasks());
        withPower.addAll(byRows(4));
        List<Refused> withLineUp = new ArrayList<>(withPower);
        withLineUp.add(state("line up", x -> x.line(true)));
        nothingChanges("the line is up", () -> busy(true), withLineUp);
        List<Refused> withLineDown = new ArrayList<>(withPower);
        withLineDown.add(state("line down", x -> x.line(false)));
        withLineDown.add(state("fill", x -> x.fill(100)));
        withLineDown.add(state("fill none", x -> x.fill(0)));
        nothingChanges("the line is down", () -> busy(false), withLineDown);
        List<Refused> withoutPower = byNumbers(9);
        withoutPower.addAll(byMasks());
        withoutPower.addAll(byPower());
        nothingChanges("no power", RefusalsTest::busyWithoutPower, withoutPower);
        List<Refused> rows = new ArrayList<>();
        for (int kind = 0; kind <= 7; kind++) {
            int k = kind;
            rows.add(noRoom("row of kind " + kind, x -> x.row(k, 5, 1)));
            rows.add(noRoom("long row of kind " + kind, x -> x.row(k, 5, 8)));
        }
        nothingChanges("a hundred wait", RefusalsTest::busyWithAHundred, rows);
        nothingChanges("no sector is left", RefusalsTest::full, rows);
    }

    private static void noDiskIsNoPower() {
        CHECK.sentence("Terms", "Without power (that is, without a disk");
        List<Refused> all = byNumbers(0);
        all.addAll(byPower());
        all.add(state("start", ServiceDisk::start));
        for (Refused call : all) {
            ServiceDisk x = new ServiceDisk();
            CHECK.refused(call.call, call.due, () -> call.made.accept(x));
            CHECK.notInThisState("still no disk behind " + call.call, x::start);
        }
        ServiceDisk x = new ServiceDisk();
        for (Refused call : all) {
            CHECK.refused("all: " + call.call, call.due, () -> call.made.accept(x));
        }
        x.format(8);
        CHECK.same("then a disk as any other", Transcript.of(Disks.formatted(8)), Transcript.of(x));
    }

    private static void noPowerBehindACut() {
        CHECK.sentence("Terms", "or behind a cut that was done) all calls that tell of state throw"
                + " IllegalStateException.");
        for (Refused call : byPower()) {
            ServiceDisk told = Disks.withUsed(8, 2);
            told.cut(0, 0);
            CHECK.due("a cut that waits takes no power", 2, () -> told.count(0));
            told.save(5);
            CHECK.refused(call.call, call.due, () -> call.made.accept(told));
            CHECK.due("a start has power again", 2, told::start);
            CHECK.due("as has what follows", 1, () -> told.save(6));
        }
    }

    private static void fiveHundredAndTwelveCalls() {
        CHECK.sentence("What it is", "An object is used for at most 512 calls after it has been made");
        ServiceDisk x = new ServiceDisk();
        x.format(8);
        for (int call = 2; call < 512; call++) {
            x.save(call);
        }
        CHECK.due("the 512th call", 511, () -> x.save(512));
        // a disk, five times a hundred rows with a sync, five rows and their sync
        ServiceDisk rows = new ServiceDisk();
        rows.format(32);
        for (int turn = 0; turn < 5; turn++) {
            Disks.addRows(rows, 100, 0, turn, 1);
            rows.sync();
        }
        Disks.addRows(rows, 5, 0, 5, 1);
        CHECK.due("the 512th call, with the most rows", 505, rows::sync);
    }

    private RefusalsTest() {}
}

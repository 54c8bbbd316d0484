import java.util.function.Supplier;

/** What an object tells when all its calls are made: two objects that tell the same are in the same state. */
final class Transcript {
    private static final int MOST_ROWS_READ = 12;

    private final ServiceDisk disk;
    private final StringBuilder text = new StringBuilder();

    private Transcript(ServiceDisk disk) {
        this.disk = disk;
    }

    /** Some 250 calls: the state is told, used up (the cut, the room, the reserve), and told again. */
    static String of(ServiceDisk disk) {
        Transcript told = new Transcript(disk);
        told.tell();
        told.use();
        told.note("start", disk::start);
        told.tell();
        told.use();
        told.tell();
        return told.text.toString();
    }

    private void note(String call, Supplier<Object> asked) {
        String got;
        try {
            got = String.valueOf(asked.get());
        } catch (RuntimeException e) {
            got = e.getClass().getSimpleName();
        }
        text.append(call).append('=').append(got).append(' ');
    }

    private void note(String call, Check.Call made) {
        note(call, () -> {
            made.run();
            return "done";
        });
    }

    private void tell() {
        for (int what = 0; what < 8; what++) {
            int asked = what;
            note("count", () -> disk.count(asked));
        }
        note("state", disk::state);
        for (int i = 0; i < MOST_ROWS_READ; i++) {
            int row = i;
            note("kind", () -> disk.kind(row));
            note("read", () -> disk.read(row, 0));
        }
        note("extract", () -> disk.extract(0, disk.count(0)));
        for (int i = 0; i < 4; i++) {
            int gap = i;
            note("gap", () -> disk.gap(gap));
        }
    }

    private void use() {
        note("line", () -> disk.line(false));
        note("send", () -> disk.send(1));
        note("line", () -> disk.line(true));
        note("fill", () -> disk.fill(1));
        for (int i = 0; i < 7; i++) {
            note("report", () -> disk.row(4, 3, 1));
            note("call", () -> disk.row(0, 4, 8));
            note("sync", disk::sync);
        }
        note("save", () -> disk.save(9));
    }
}

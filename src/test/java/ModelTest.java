import java.util.Random;
import java.util.function.Supplier;

/** Long runs of calls, the same in every run of this test, compared with the plain model; of all promises. */
public final class ModelTest {
    private static final int RUNS = 3000;
    private static final int CALLS = 512;
    private static final int[] EDGES = {
        -1, 0, 1, 2, 7, 8, 9, 20, 21, 32, 33, 100, 101, 255, 256, 511, 512, Integer.MIN_VALUE, Integer.MAX_VALUE
    };

    private final Check check;
    private final int run;
    private final Random random;
    private final ServiceDisk disk = new ServiceDisk();
    private final PlainModel model = new PlainModel();
    private int calls;

    private ModelTest(Check check, int run) {
        this.check = check;
        this.run = run;
        this.random = new Random(run);
    }

    public static void main(String[] args) {
        Check check = new Check();
        for (int run = 0; run < RUNS; run++) {
            new ModelTest(check, run).goOn();
        }
        check.end("ModelTest");
    }

    private void goOn() {
        if (random.nextInt(10) > 0) {
            format(8 + random.nextInt(random.nextBoolean() ? 3 : 25));
        }
        while (calls < CALLS) {
            if (random.nextInt(40) == 0) {
                oddCall();
            } else {
                plainCall();
            }
        }
    }

    private void compare(String call, Supplier<String> wanted, Supplier<String> asked) {
        if (calls == CALLS) {
            return;
        }
        calls++;
        String got;
        try {
            got = asked.get();
        } catch (RuntimeException e) {
            got = e.getClass().getName();
        }
        check.same("run " + run + ", call " + calls + ", " + call, wanted.get(), got);
    }

    private void plainCall() {
        int choice = random.nextInt(100);
        if (choice < 30) {
            manyRows();
        } else if (choice < 42) {
            sync();
        } else if (choice < 47) {
            save(random.nextLong());
        } else if (choice < 55) {
            cut(random.nextInt(random.nextBoolean() ? 4 : 21), random.nextInt(512));
        } else if (choice < 62) {
            start();
        } else if (choice < 72) {
            disturb();
        } else if (choice < 84) {
            look();
        } else if (choice < 98) {
            useRoom();
        } else if (random.nextInt(4) == 0) {
            format(8 + random.nextInt(4));
        } else {
            reserve(random.nextInt(9));
        }
    }

    private void manyRows() {
        int size = random.nextInt(6) == 0 ? 110 : 1 + random.nextInt(4);
        for (int i = 0; i < size; i++) {
            row(random.nextInt(8), random.nextLong(), 1 + random.nextInt(8));
        }
    }

    private void disturb() {
        if (model.copies == null) {
            alter(0, 0, 0, 1);
            return;
        }
        int sector = random.nextInt(3) == 0 ? model.sectors - 1 - random.nextInt(2) : random.nextInt(model.sectors);
        int copy = random.nextInt(2);
        if (random.nextInt(3) > 0) {
            int at = random.nextInt(3) == 0 ? random.nextInt(20) : random.nextInt(512);
            alter(copy, sector, at, 1 + random.nextInt(255));
            return;
        }
        byte[] shall = forged(sector);
        byte[] is = model.copies[copy][sector].clone();
        for (int at = 0; at < 512; at++) {
            if (is[at] != shall[at]) {
                alter(copy, sector, at, (is[at] ^ shall[at]) & 255);
            }
        }
    }

    /** A sector that is right but for one thing, or for none. */
    private byte[] forged(int sector) {
        boolean forState = sector >= model.sectors - 2;
        int number = forState ? random.nextInt(12) - 4 : sector + 1 - (random.nextInt(8) == 0 ? 1 : 0);
        int[] data = forState ? random.ints(8, 0, 256).toArray() : forgedRows();
        int said = data.length + (random.nextInt(6) == 0 ? random.nextInt(3) - 1 : 0);
        return Sectors.saying(said, number, data);
    }

    private int[] forgedRows() {
        int[] data = new int[60];
        int end = 0;
        int rows = random.nextInt(6);
        for (int i = 0; i < rows; i++) {
            int length = 1 + random.nextInt(random.nextInt(8) == 0 ? 10 : 8);
            if (end + 2 + length > data.length) {
                break;
            }
            data[end] = random.nextInt(random.nextInt(8) == 0 ? 256 : 8);
            data[end + 1] = length;
            for (int at = 0; at < length; at++) {
                data[end + 2 + at] = random.nextInt(256);
            }
            end += 2 + length;
        }
        return java.util.Arrays.copyOf(data, end);
    }

    private void look() {
        int rows = model.acknowledged();
        switch (random.nextInt(5)) {
            case 0:
                read(random.nextInt(rows + 1), random.nextInt(9));
                break;
            case 1:
                kind(random.nextInt(rows + 1));
                break;
            case 2:
                int from = random.nextInt(rows + 1);
                extract(from, from + random.nextInt(rows - from + 1));
                break;
            case 3:
                state();
                break;
            default:
                count(random.nextInt(8));
                break;
        }
    }

    private void useRoom() {
        switch (random.nextInt(5)) {
            case 0:
                line(random.nextBoolean());
                break;
            case 1:
                send(random.nextInt(random.nextBoolean() ? 101 : 4));
                break;
            case 2:
                gap(random.nextInt(4));
                break;
            case 3:
                fill(random.nextInt(random.nextBoolean() ? 101 : 4));
                break;
            default:
                count(6 + random.nextInt(2));
                break;
        }
    }

    private int edge() {
        return EDGES[random.nextInt(EDGES.length)];
    }

    private void oddCall() {
        switch (random.nextInt(12)) {
            case 0:
                if (random.nextInt(4) == 0) {
                    format(edge());
                }
                break;
            case 1:
                reserve(edge());
                break;
            case 2:
                row(edge(), random.nextLong(), edge());
                break;
            case 3:
                cut(edge(), edge());
                break;
            case 4:
                alter(random.nextInt(2), edge(), edge(), edge());
                break;
            case 5:
                alter(edge(), random.nextInt(8), random.nextInt(512), edge());
                break;
            case 6:
                read(edge(), edge());
                break;
            case 7:
                kind(edge());
                break;
            case 8:
                extract(edge(), edge());
                break;
            case 9:
                send(edge());
                gap(edge());
                break;
            case 10:
                fill(edge());
                break;
            default:
                count(edge());
                break;
        }
    }

    private void format(int n) {
        compare("format " + n, () -> model.format(n), () -> {
            disk.format(n);
            return PlainModel.VOID;
        });
    }

    private void reserve(int sectors) {
        compare("reserve " + sectors, () -> model.reserve(sectors), () -> {
            disk.reserve(sectors);
            return PlainModel.VOID;
        });
    }

    private void row(int kind, long bytes, int n) {
        String call = "row " + kind + " " + bytes + " " + n;
        compare(call, () -> model.row(kind, bytes, n), () -> Integer.toString(disk.row(kind, bytes, n)));
    }

    private void sync() {
        compare("sync", model::sync, () -> Integer.toString(disk.sync()));
    }

    private void save(long state) {
        compare("save " + state, () -> model.save(state), () -> Integer.toString(disk.save(state)));
    }

    private void state() {
        compare("state", model::state, () -> Long.toString(disk.state()));
    }

    private void cut(int writes, int bytes) {
        compare("cut " + writes + " " + bytes, () -> model.cut(writes, bytes), () -> {
            disk.cut(writes, bytes);
            return PlainModel.VOID;
        });
    }

    private void start() {
        compare("start", model::start, () -> Integer.toString(disk.start()));
    }

    private void alter(int copy, int sector, int at, int mask) {
        String call = "alter " + copy + " " + sector + " " + at + " " + mask;
        compare(call, () -> model.alter(copy, sector, at, mask), () -> {
            disk.alter(copy, sector, at, mask);
            return PlainModel.VOID;
        });
    }

    private void read(int row, int i) {
        compare("read " + row + " " + i, () -> model.read(row, i), () -> Integer.toString(disk.read(row, i)));
    }

    private void kind(int row) {
        compare("kind " + row, () -> model.kind(row), () -> Integer.toString(disk.kind(row)));
    }

    private void extract(int from, int to) {
        String call = "extract " + from + " " + to;
        compare(call, () -> model.extract(from, to), () -> Integer.toString(disk.extract(from, to)));
    }

    private void line(boolean up) {
        compare("line " + up, () -> model.line(up), () -> {
            disk.line(up);
            return PlainModel.VOID;
        });
    }

    private void send(int n) {
        compare("send " + n, () -> model.send(n), () -> Integer.toString(disk.send(n)));
    }

    private void gap(int i) {
        compare("gap " + i, () -> model.gap(i), () -> Integer.toString(disk.gap(i)));
    }

    private void fill(int n) {
        compare("fill " + n, () -> model.fill(n), () -> Integer.toString(disk.fill(n)));
    }

    private void count(int what) {
        compare("count " + what, () -> model.count(what), () -> Integer.toString(disk.count(what)));
    }
}

/** Objects in the states that tests begin with, and the steps that lead there. */
final class Disks {
    private Disks() {}

    static ServiceDisk formatted(int n) {
        ServiceDisk x = new ServiceDisk();
        x.format(n);
        return x;
    }

    static ServiceDisk withoutPower(int n) {
        ServiceDisk x = formatted(n);
        losePower(x);
        return x;
    }

    /** Cuts a save before its first byte, so that nothing on the disk is changed. */
    static void losePower(ServiceDisk x) {
        x.cut(0, 0);
        x.save(1);
    }

    static void addRows(ServiceDisk x, int rows, int kind, long bytes, int n) {
        for (int i = 0; i < rows; i++) {
            x.row(kind, bytes, n);
        }
    }

    /** Uses sectors by rows of one byte, one on each: 0, 1, .. of kind 0. */
    static void useSectors(ServiceDisk x, int sectors) {
        for (int i = 0; i < sectors; i++) {
            x.row(0, i, 1);
            x.sync();
        }
    }

    static ServiceDisk withUsed(int n, int sectors) {
        ServiceDisk x = formatted(n);
        useSectors(x, sectors);
        return x;
    }

    /** A byte behind all that a short sector has is altered; a second time, and it is as it was. */
    static void spoil(ServiceDisk x, int copy, int sector) {
        x.alter(copy, sector, 300, 16);
    }

    static void spoilBoth(ServiceDisk x, int sector) {
        spoil(x, 0, sector);
        spoil(x, 1, sector);
    }

    /** Acknowledged rows of one byte, as many on a sector as wait at once. */
    static ServiceDisk withRows(int rows) {
        ServiceDisk x = formatted(32);
        for (int i = 0; i < rows; i++) {
            x.row(i % 4, i, 1);
            if (i % 100 == 99) {
                x.sync();
            }
        }
        x.sync();
        return x;
    }

    /** Row 0 (kind 3, bytes 10, 11) and row 1 (kind 5, byte 255) on sector 0, row 2 (kind 1, bytes 1, 2, 3) on 1. */
    static ServiceDisk threeRows() {
        ServiceDisk x = formatted(8);
        x.row(3, 0x0A0B, 2);
        x.row(5, 0xFF, 1);
        x.sync();
        x.row(1, 0x010203, 3);
        x.sync();
        return x;
    }

    /** Sends rows by ones: up where the text has '+', down where it has '-'; the line is up before and behind. */
    static void sendSo(ServiceDisk x, String pattern) {
        boolean up = true;
        for (int i = 0; i < pattern.length(); i++) {
            boolean wanted = pattern.charAt(i) == '+';
            if (wanted != up) {
                x.line(wanted);
                up = wanted;
            }
            x.send(1);
        }
        if (!up) {
            x.line(true);
        }
    }
}

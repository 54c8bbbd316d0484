/** Sectors as the document says them, made apart from the program, and ways to bring them onto its disk. */
final class Sectors {
    static final int BYTES = 512;

    private Sectors() {}

    static byte[] blank() {
        return new byte[BYTES];
    }

    static int sum(byte[] bytes, int from, int to) {
        int s = 0;
        for (int i = from; i < to; i++) {
            s = Integer.rotateLeft(s ^ (bytes[i] & 0xFF), 5) * 0x85EBCA6B;
        }
        return s;
    }

    static int sum(int... bytes) {
        byte[] all = new byte[bytes.length];
        for (int i = 0; i < bytes.length; i++) {
            all[i] = (byte) bytes[i];
        }
        return sum(all, 0, all.length);
    }

    /** A sector with this number and these bytes; said is how many bytes it says that it has. */
    static byte[] saying(int said, int number, int... data) {
        byte[] sector = blank();
        putInt(sector, 0, number);
        sector[4] = (byte) (said >> 8);
        sector[5] = (byte) said;
        for (int i = 0; i < data.length; i++) {
            sector[6 + i] = (byte) data[i];
        }
        return summed(sector);
    }

    static byte[] of(int number, int... data) {
        return saying(data.length, number, data);
    }

    static byte[] ofState(int number, long state) {
        int[] data = new int[8];
        for (int i = 0; i < 8; i++) {
            data[i] = (int) (state >> (56 - 8 * i)) & 0xFF;
        }
        return of(number, data);
    }

    static byte[] summed(byte[] sector) {
        putInt(sector, 508, sum(sector, 0, 508));
        return sector;
    }

    /** Alters one copy of a sector, which is known to be as the first one, to be as the second one. */
    static void turn(ServiceDisk disk, int copy, int sector, byte[] is, byte[] shall) {
        for (int at = 0; at < BYTES; at++) {
            int mask = (is[at] ^ shall[at]) & 0xFF;
            if (mask != 0) {
                disk.alter(copy, sector, at, mask);
            }
        }
    }

    static void turnBoth(ServiceDisk disk, int sector, byte[] is, byte[] shall) {
        turn(disk, 0, sector, is, shall);
        turn(disk, 1, sector, is, shall);
    }

    private static void putInt(byte[] sector, int at, int value) {
        for (int i = 0; i < 4; i++) {
            sector[at + i] = (byte) (value >> (24 - 8 * i));
        }
    }
}

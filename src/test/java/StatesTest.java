/** Promises 6 and 7: save, state; and how a start finds the state. */
public final class StatesTest {
    private static final Check CHECK = new Check();

    public static void main(String[] args) {
        statesAreNumbered();
        statesAreWrittenByTurns();
        statesNeedPower();
        stateIsHeldWithPower();
        startTakesTheGreaterNumber();
        startWithoutAStateHasNone();
        startTakesNumbersWithASign();
        startWantsEightBytes();
        startWantsTheSum();
        startRepairsBothStateSectors();
        rightCopiesThatDifferStay();
        cutSavesKeepTheStateBefore();
        numbersCountUpInThirtyTwoBits();
        CHECK.end("StatesTest");
    }

    private static void statesAreNumbered() {
        ServiceDisk x = Disks.formatted(8);
        CHECK.due("7 no state", 0, x::state);
        long[] states = {77, -5, Long.MIN_VALUE, Long.MAX_VALUE, 0, 0x0102030405060708L};
        for (int i = 0; i < states.length; i++) {
            long state = states[i];
            CHECK.due("6 number", i + 1, () -> x.save(state));
            CHECK.due("7 state", state, x::state);
            CHECK.due("9 start", 0, x::start);
            CHECK.due("7 state behind a start", state, x::state);
            CHECK.due("18 number", i + 1, () -> x.count(5));
        }
        CHECK.due("6 nothing to repair", 0, () -> x.count(3));
        CHECK.due("6 states use no sectors for rows", 0, () -> x.count(4));
    }

    private static void statesAreWrittenByTurns() {
        for (int n : new int[] {8, 17, 32}) {
            ServiceDisk x = Disks.formatted(n);
            x.save(0x0102030405060708L);
            x.save(-2);
            Sectors.turnBoth(x, n - 2, Sectors.ofState(1, 0x0102030405060708L), Sectors.ofState(9, 5));
            CHECK.due("6 start", 0, x::start);
            CHECK.due("6 the odd one is on the last sector but one", 5, x::state);
            CHECK.due("6 in both copies", 0, () -> x.count(3));
            Sectors.turnBoth(x, n - 1, Sectors.ofState(2, -2), Sectors.ofState(10, 6));
            CHECK.due("6 start", 0, x::start);
            CHECK.due("6 the even one is on the last", 6, x::state);
            CHECK.due("6 in both copies", 0, () -> x.count(3));
        }
    }

    private static void statesNeedPower() {
        ServiceDisk x = Disks.formatted(8);
        x.save(3);
        x.cut(0, 511);
        CHECK.due("6 cut", -1, () -> x.save(4));
        CHECK.notInThisState("6 no power", () -> x.save(5));
        CHECK.notInThisState("7 no power", x::state);
        x.start();
        CHECK.due("7 power again", 3, x::state);
    }

    private static void stateIsHeldWithPower() {
        ServiceDisk x = Disks.formatted(8);
        x.save(3);
        x.alter(0, 6, 0, 1);
        x.alter(1, 6, 0, 1);
        CHECK.due("7 alterations come with a start", 3, x::state);
        CHECK.due("18 so does the number", 1, () -> x.count(5));
        x.start();
        CHECK.due("7 now it is gone", 0, x::state);
        CHECK.due("18 and its number", 0, () -> x.count(5));
        CHECK.due("6 the next one is the first", 1, () -> x.save(8));
    }

    private static void startTakesTheGreaterNumber() {
        ServiceDisk x = Disks.formatted(8);
        for (int i = 1; i <= 5; i++) {
            x.save(100 + i);
        }
        x.alter(0, 6, 100, 1);
        x.alter(1, 6, 100, 1);
        x.start();
        CHECK.due("9 the fourth, as the fifth is lost", 104, x::state);
        CHECK.due("6 the next is the fifth", 5, () -> x.save(7));
        x.start();
        CHECK.due("9 the fifth", 7, x::state);
        CHECK.due("18 its number", 5, () -> x.count(5));
    }

    private static void startWithoutAStateHasNone() {
        ServiceDisk x = Disks.formatted(8);
        Sectors.turnBoth(x, 6, Sectors.blank(), Sectors.ofState(0, 5));
        x.start();
        CHECK.due("9 number 0 is not right", 0, x::state);
        CHECK.due("9 it has number 0", 0, () -> x.count(5));
        CHECK.due("9 nothing is repaired", 0, () -> x.count(3));
    }

    private static void startTakesNumbersWithASign() {
        ServiceDisk x = Disks.formatted(8);
        Sectors.turnBoth(x, 6, Sectors.blank(), Sectors.ofState(-5, 55));
        x.start();
        CHECK.due("9 a number below 0", 55, x::state);
        CHECK.due("18 its number", -5, () -> x.count(5));
        Sectors.turnBoth(x, 7, Sectors.blank(), Sectors.ofState(-4, 44));
        x.start();
        CHECK.due("9 the greater one", 44, x::state);
        CHECK.due("6 the next number", -3, () -> x.save(33));
        Sectors.turnBoth(x, 6, Sectors.ofState(-3, 33), Sectors.ofState(0x7FFFFFFF, 1));
        x.start();
        CHECK.due("6 an odd number below 0 is on the last sector but one", 1, x::state);
        Sectors.turnBoth(x, 7, Sectors.ofState(-4, 44), Sectors.ofState(1, 2));
        x.start();
        CHECK.due("9 the greatest number of all", 1, x::state);
    }

    private static void startWantsEightBytes() {
        for (int said : new int[] {0, 7, 9, 0x0100, 0x0108, 502, 503, 0xFFFF}) {
            ServiceDisk x = Disks.formatted(8);
            Sectors.turnBoth(x, 7, Sectors.blank(), Sectors.saying(said, 2, 0, 1, 2, 3, 4, 5, 6, 7));
            x.start();
            CHECK.due("9 not 8 bytes: " + said, 0, () -> x.count(5));
        }
    }

    private static void startWantsTheSum() {
        for (int at : new int[] {3, 5, 6, 13, 14, 507, 508, 511}) {
            ServiceDisk x = Disks.formatted(8);
            x.save(1);
            x.alter(0, 6, at, 128);
            x.start();
            CHECK.due("9 the other copy", 1, x::state);
            CHECK.due("9 repaired", 1, () -> x.count(3));
        }
    }

    private static void startRepairsBothStateSectors() {
        ServiceDisk x = Disks.formatted(8);
        x.save(1);
        x.save(2);
        x.alter(0, 6, 20, 1);
        x.alter(1, 7, 20, 1);
        x.start();
        CHECK.due("9 both are repaired", 2, () -> x.count(3));
        x.alter(1, 6, 20, 1);
        x.alter(0, 7, 20, 1);
        x.start();
        CHECK.due("9 both are repaired from the repaired ones", 4, () -> x.count(3));
        CHECK.due("9 the state", 2, x::state);
        x.start();
        CHECK.due("9 nothing more to repair", 4, () -> x.count(3));
    }

    private static void rightCopiesThatDifferStay() {
        ServiceDisk x = Disks.formatted(8);
        x.save(1);
        x.save(2);
        x.cut(1, 0);
        CHECK.due("6 cut between the copies", -1, () -> x.save(3));
        x.start();
        CHECK.due("9 from copy 0", 3, x::state);
        CHECK.due("9 both copies are right", 0, () -> x.count(3));
        x.alter(0, 6, 0, 1);
        x.start();
        CHECK.due("9 copy 1 has the older one", 2, x::state);
        CHECK.due("9 copy 0 is repaired", 1, () -> x.count(3));
        CHECK.due("6 the third one again", 3, () -> x.save(4));
    }

    private static void cutSavesKeepTheStateBefore() {
        for (int bytes = 4; bytes < 512; bytes += 13) {
            ServiceDisk x = Disks.formatted(8);
            x.save(11);
            x.save(12);
            x.cut(0, bytes);
            CHECK.due("6 cut", -1, () -> x.save(13));
            x.start();
            CHECK.due("7 the state before", 12, x::state);
            CHECK.due("6 its next number", 3, () -> x.save(14));
            x.cut(1, bytes);
            CHECK.due("6 cut in copy 1", -1, () -> x.save(15));
            x.start();
            CHECK.due("7 the new state", 15, x::state);
            CHECK.due("18 its number", 4, () -> x.count(5));
        }
    }

    private static void numbersCountUpInThirtyTwoBits() {
        ServiceDisk x = Disks.formatted(8);
        Sectors.turnBoth(x, 6, Sectors.blank(), Sectors.ofState(Integer.MAX_VALUE, 1));
        x.start();
        CHECK.due("6 behind the greatest", Integer.MIN_VALUE, () -> x.save(2));
        CHECK.due("7 the state", 2, x::state);
        x.start();
        CHECK.due("9 the greater number has it", 1, x::state);
    }

    private StatesTest() {}
}

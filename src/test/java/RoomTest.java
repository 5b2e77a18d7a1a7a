import java.lang.management.ManagementFactory;

/**
 * What an object and its 512 calls make is counted: all calls of a run live in one room of some 600,000
 * objects and 7.3 million fields and elements. A tenth of that, by one byte each, is the bound here.
 */
public final class RoomTest {
    private static final long MOST_BYTES = 730_000;
    /** By eight puts: four annotations with rows in rows, and a byte that follows. */
    private static final int[] WIDE = Files.file("t:A k:1",
            "0 2 0 0 0 4 " + "2 1 1 [ 3 [ 0 [ 0 [ 0 ".repeat(4) + "0 0");

    /** What is measured: a new object and at most 512 calls on it. */
    private interface Calls {
        void on(ClassFileIndex x);
    }

    public static void main(String[] args) {
        measure("a new object", x -> { });
        measure("wrong files of many values", RoomTest::wrongFiles);
        measure("right files of many values", RoomTest::rightFiles);
        measure("questions", RoomTest::questions);
        Due.finish();
    }

    private static void measure(String what, Calls calls) {
        com.sun.management.ThreadMXBean room = (com.sun.management.ThreadMXBean) ManagementFactory.getThreadMXBean();
        calls.on(new ClassFileIndex());
        long before = room.getCurrentThreadAllocatedBytes();
        calls.on(new ClassFileIndex());
        long made = room.getCurrentThreadAllocatedBytes() - before;
        System.out.println(what + ": " + made + " bytes");
        Due.due(what + " in the room, " + made + " bytes", made <= MOST_BYTES, true);
    }

    private static void wrongFiles(ClassFileIndex x) {
        for (int call = 0; call + 9 <= 512; call += 9) {
            Files.put(x, WIDE);
            x.read();
        }
    }

    private static void rightFiles(ClassFileIndex x) {
        for (int i = 0; i < 16; i++) {
            x.put(0xCAFE_02_01_01_00_07_01L | (long) ('A' + i) << 16, 8);
            x.put(0x03_02_02_00_00_01_02_01L, 8);
            x.put(0x01_5B_03_5B_00_5B_00L, 7);
            x.put(0x5B_00_00L, 3);
            x.read();
        }
        for (int call = 80; call < 512; call++) {
            x.value(call % 16, call % 16, call % 16, 1);
        }
    }

    private static void questions(ClassFileIndex x) {
        for (int i = 0; i < 16; i++) {
            x.put(0xCAFE_02_01_01_00_07_01L | (long) ('A' + i) << 16, 8);
            x.put(0x03_02_02_00_01_02_01_02L, 8);
            x.put(0, 2);
            x.read();
        }
        for (int call = 64; call + 4 <= 512; call += 4) {
            x.subtypeAt(call % 16, 15);
            x.meta(call % 16, 15);
            x.count(call % 16, 15);
            x.holder(call % 16, 15);
        }
    }
}

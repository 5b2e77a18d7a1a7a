/** "An object is used for at most 512 calls": the last of them is answered as the first ones are. */
public final class LastCallEdgeTest {
    private static final int CALLS = 512;

    public static void main(String[] args) {
        readIsTheLastCall();
        questionsUpToTheLastCall();
        wrongFilesUpToTheLastCall();
        putAndDropUpToTheLastCall();
        Due.finish();
    }

    /** Wrong files, each by one put and one read, and at the end a right one: two puts and one read. */
    private static void readIsTheLastCall() {
        ClassFileIndex x = new ClassFileIndex();
        for (int call = 0; call + 2 <= CALLS - 4; call += 2) {
            x.put(0xCAFE_01_01_0A_41_42L, 7);
            Due.due("read() after call " + call, x.read(), -1007);
        }
        Due.due("texts() as call 509", x.texts(), 0);
        x.put(0xCAFE_02_01_01_41_07_01L, 8);
        x.put(0x01_02_00_00_00_00_00L, 7);
        Due.due("read() as call 512", x.read(), 0);
    }

    /** Sixteen classes, each by three calls; then all that can be asked, in turn. */
    private static void questionsUpToTheLastCall() {
        ClassFileIndex x = new ClassFileIndex();
        for (int i = 0; i < 16; i++) {
            x.put(0xCAFE_02_01_01_00_07_01L | (long) ('A' + i) << 16, 8);
            x.put(0x03_02_02_00_00_01_02_00L, 8);
            x.put(0x00L, 1);
            Due.due("read() of class " + i, x.read(), i);
        }
        for (int call = 64; call < CALLS; call++) {
            int c = call % 16;
            String what = "call " + (call + 1) + " about " + c;
            switch (call / 16 % 6) {
                case 0 -> Due.due(what + ", subtype", x.subtype(c, c), true);
                case 1 -> Due.due(what + ", holder", x.holder(c, c), c);
                case 2 -> Due.due(what + ", count", x.count(c, c), 1);
                case 3 -> Due.due(what + ", meta", x.meta(c, 15 - c), false);
                case 4 -> Due.due(what + ", subtypeAt", x.subtypeAt(c, 0), c);
                default -> Due.due(what + ", value", x.value(c, c, c, 0), -1);
            }
        }
    }

    private static void wrongFilesUpToTheLastCall() {
        ClassFileIndex x = new ClassFileIndex();
        for (int call = 0; call < CALLS; call++) {
            Due.due("read() as call " + (call + 1), x.read(), -1000);
        }
    }

    private static void putAndDropUpToTheLastCall() {
        ClassFileIndex x = new ClassFileIndex();
        for (int call = 0; call < CALLS; call += 16) {
            for (int i = 0; i < 15; i++) {
                Due.due("put after call " + (call + i), x.put(call, 8), true);
            }
            if (call + 16 < CALLS) {
                x.drop();
            } else {
                Due.due("length() as call 512", x.length(), 120);
            }
        }
    }
}

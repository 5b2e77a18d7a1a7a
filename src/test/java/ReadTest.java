import java.util.Arrays;

/** Promise 5 and the reasons under Terms: read. */
public final class ReadTest {
    public static void main(String[] args) {
        rightFiles();
        everyCut();
        start();
        constants();
        classConstants();
        heads();
        annotations();
        defaults();
        depths();
        order();
        refusedFilesLeaveNothing();
        sixteenClasses();
        Due.finish();
    }

    private static void refused(String constants, String rest, int want) {
        Due.due("read of " + constants + " | " + rest, Files.readNew(constants, rest), -want);
    }

    private static void right(String constants, String rest) {
        Due.due("read of " + constants + " | " + rest, Files.readNew(constants, rest), 0);
    }

    private static void rightFiles() {
        right("t:A k:1", "0 2 0 0 0 0 0");
        right("k:2 t:A", "3 1 0 0 0 0 0");
        right("t:ABCDEFGHIJ k:1", "1 2 2 2 0 0 0");
        right("t:A k:1", "2 2 0 0 4 2 2 2 2 0 0");
        right("t:A k:1 t: i:0 i:-1 t: t:B t:C t:D t:E t:F t:G", "0 2 0 0 0 0 0");
        right("t:! k:1 t:~", "0 2 0 0 0 0 0");
        right("t:A k:1", "0 2 0 0 0 4 2 0 2 0 2 0 2 0 0");
        right("t:A k:1 t: i:5", "0 2 0 0 0 1 2 4 1 I 4 3 s 3 1 c 2 3 [ 4 I 4 s 3 c 2 @ 2 0 0");
        right("t:A k:1", "0 2 0 0 0 0 4 1 c 2 1 s 1 1 [ 0 1 @ 2 0");
    }

    /** Every beginning of a right file ends where a byte is needed, and no more may follow. */
    private static void everyCut() {
        int[] whole = Files.file("t:A k:1 t:e i:5",
                "3 2 2 2 2 2 2 2 2 2 3 I 4 3 [ 2 s 3 [ 1 @ 2 1 3 c 2 2 0 2 3 @ 2 0 3 s 1");
        for (int n = 0; n < whole.length; n++) {
            int got = Files.read(new ClassFileIndex(), Arrays.copyOf(whole, n));
            Due.due("read of the first " + n + " bytes", got, -(1000 + n));
        }
        Due.due("read of the whole", Files.read(new ClassFileIndex(), whole), 0);
        for (int more = 1; more <= 3; more++) {
            int got = Files.read(new ClassFileIndex(), Arrays.copyOf(whole, whole.length + more));
            Due.due("read of " + more + " more", got, -(8000 + whole.length));
        }
    }

    private static void readBytes(String words, int want) {
        Due.due("read of bytes " + words, Files.read(new ClassFileIndex(), Files.bytes(words)), -want);
    }

    private static void start() {
        readBytes("0", 2000);
        readBytes("201 254 0", 2000);
        readBytes("254 202 0", 2000);
        readBytes("202 253", 2001);
        readBytes("202 202", 2001);
        readBytes("202", 1001);
        readBytes("202 254", 1002);
        readBytes("202 254 13", 4002);
        readBytes("202 254 255", 4002);
        readBytes("202 254 12", 1003);
        readBytes("202 254 0", 1003);
    }

    private static void constants() {
        for (int tag = 0; tag <= 255; tag++) {
            boolean told = tag == 1 || tag == 3 || tag == 7;
            readBytes("202 254 1 " + tag, told ? 1004 : 3003);
        }
        readBytes("202 254 2 1 0 2", 3005);
        readBytes("202 254 1 1 11", 4004);
        readBytes("202 254 1 1 10", 1005);
        readBytes("202 254 1 1 3 33 126", 1007);
        readBytes("202 254 1 1 3 65 32 66", 5006);
        readBytes("202 254 1 1 3 65 66 127", 5007);
        readBytes("202 254 1 1 1 0", 5005);
        readBytes("202 254 1 1 1 255", 5005);
        readBytes("202 254 1 1 2 32", 5005);
        readBytes("202 254 1 3 1 2 3", 1007);
        readBytes("202 254 1 3 255 255 255 255", 1008);
    }

    /** They are looked at after the last constant and before the flags. */
    private static void classConstants() {
        refused("k:0", "", 6004);
        refused("k:1", "", 6004);
        refused("k:2", "", 6004);
        refused("k:2 t:", "", 6004);
        refused("k:2 i:5", "", 6004);
        refused("k:2 k:3 t:A", "", 6004);
        refused("t:A k:1 k:4", "", 6009);
        refused("t:A k:1 k:255", "9", 6009);
        refused("t:A k:1 k:13", "9", 6009);
        refused("k:3 k:9 t:A k:9", "", 6006);
        refused("k:3 k:3 t:A", "", 1010);
        refused("k:9 t:A", "4 1 0", 6004);
        String eleven = "t:A t: t: t: t: t: t: t: t: t: t: ";
        right(eleven + "k:1", "0 12 12 12 1 12 1 12 0 0");
        refused(eleven + "k:13", "", 6027);
        refused(eleven + "k:1", "0 13", 6029);
        refused(eleven + "t:", "0 12", 6029);
        readBytes("202 254 2 7 9 2", 3005);
        readBytes("202 254 2 7 9 1 1 32", 5007);
        readBytes("202 254 2 7 9 1 1", 1007);
    }

    /** The flags stand at place 8 in these files. */
    private static void heads() {
        refused("t:A k:1", "4", 4008);
        refused("t:A k:1", "255", 4008);
        refused("t:A k:1", "0 0", 6009);
        refused("t:A k:1", "0 1", 6009);
        refused("t:A k:1", "0 3", 6009);
        refused("t:A k:1", "0 255", 6009);
        refused("t:A i:1 k:1", "0 2", 6014);
        refused("t:A k:1", "0 2 1", 6010);
        refused("t:A k:1", "0 2 3", 6010);
        refused("t:A k:1", "0 2 0 1", 6011);
        refused("t:A k:1", "0 2 0 13", 6011);
        refused("t:A k:1", "0 2 0 0 5", 4012);
        refused("t:A k:1", "0 2 0 0 1 0", 6013);
        refused("t:A k:1", "0 2 0 0 4 2 2 2 1", 6016);
        refused("t:A k:1", "0 2 0 0 0 0 0 7", 8015);
        refused("", "0 0", 6004);
        refused("", "0 1", 6004);
    }

    private static void annotations() {
        refused("t:A k:1", "0 2 0 0 0 5", 4013);
        refused("t:A k:1", "0 2 0 0 0 1 0", 6014);
        refused("t:A k:1", "0 2 0 0 0 1 1", 6014);
        refused("t:A k:1", "0 2 0 0 0 1 2 5", 4015);
        refused("t:A k:1", "0 2 0 0 0 1 2 1 0", 6016);
        refused("t:A k:1", "0 2 0 0 0 1 2 1 2", 6016);
        refused("t:A k:1", "0 2 0 0 0 1 2 1 1 0", 3017);
        for (int tag = 0; tag <= 255; tag++) {
            boolean told = tag == 73 || tag == 115 || tag == 99 || tag == 91 || tag == 64;
            refused("t:A k:1", "0 2 0 0 0 1 2 1 1 " + tag, told ? 1018 : 3017);
        }
        refused("t:A k:1 i:7", "0 2 0 0 0 1 2 1 1 I 1", 6023);
        refused("t:A k:1 i:7", "0 2 0 0 0 1 2 1 1 I 2", 6023);
        refused("t:A k:1 i:7", "0 2 0 0 0 1 2 1 1 I 0", 6023);
        refused("t:A k:1 i:7", "0 2 0 0 0 1 2 1 1 I 4", 6023);
        refused("t:A k:1 i:7", "0 2 0 0 0 1 2 1 1 s 2", 6023);
        refused("t:A k:1 i:7", "0 2 0 0 0 1 2 1 1 s 3", 6023);
        refused("t:A k:1 i:7", "0 2 0 0 0 1 2 1 1 c 1", 6023);
        refused("t:A k:1 i:7", "0 2 0 0 0 1 2 1 1 c 3", 6023);
        refused("t:A k:1 i:7", "0 2 0 0 0 1 2 1 1 [ 5", 4023);
        refused("t:A k:1 i:7", "0 2 0 0 0 1 2 1 1 [ 2 I 3 8", 3026);
        refused("t:A k:1 i:7", "0 2 0 0 0 1 2 1 1 @ 3", 6023);
        refused("t:A k:1 i:7", "0 2 0 0 0 1 2 1 1 @ 2 5", 4024);
        refused("t:A k:1 i:7", "0 2 0 0 0 1 2 1 1 @ 2 1 3", 6025);
        refused("t:A k:1 i:7", "0 2 0 0 0 2 2 1 1 I 3 9", 6024);
    }

    private static void defaults() {
        refused("t:A k:1", "0 2 0 0 0 0 5", 4014);
        refused("t:A k:1", "0 2 0 0 0 0 1 2", 6015);
        refused("t:A k:1", "0 2 0 0 0 0 1 0", 6015);
        refused("t:A k:1", "0 2 0 0 0 0 1 1 9", 3016);
        refused("t:A k:1", "0 2 0 0 0 0 1 1 [ 5", 4017);
        refused("t:A k:1", "0 2 0 0 0 0 2 1 c 2 2", 6018);
        refused("t:A k:1", "0 2 0 0 0 0 1 1 [ 1 [ 1 [ 1 [ 1 s 1", 7024);
        right("t:A k:1", "0 2 0 0 0 0 1 1 [ 1 [ 1 [ 1 [ 0");
    }

    /** The annotation's first value, of depth 1, stands at place 17. */
    private static void depths() {
        String until = "0 2 0 0 0 1 2 1 1 ";
        right("t:A k:1", until + "[ 1 [ 1 [ 1 s 1 0");
        right("t:A k:1", until + "[ 1 [ 1 [ 1 [ 0 0");
        right("t:A k:1", until + "[ 1 [ 1 [ 1 @ 2 0 0");
        right("t:A k:1", until + "@ 2 1 1 @ 2 1 1 @ 2 1 1 @ 2 0 0");
        refused("t:A k:1", until + "[ 1 [ 1 [ 1 [ 1 s 1 0", 7025);
        refused("t:A k:1", until + "[ 1 [ 1 [ 1 [ 1 0", 7025);
        refused("t:A k:1", until + "[ 1 [ 1 [ 1 [ 1 255", 7025);
        refused("t:A k:1", until + "[ 1 [ 1 [ 1 [ 1", 1025);
        refused("t:A k:1", until + "[ 1 [ 1 [ 1 [ 5", 4024);
        refused("t:A k:1", until + "[ 1 [ 1 [ 1 @ 2 1 1 s 1", 7027);
        refused("t:A k:1", until + "[ 1 [ 1 [ 1 @ 2 1 1", 1027);
        refused("t:A k:1", until + "[ 1 [ 1 [ 1 @ 2 1 2 s", 6026);
        refused("t:A k:1", until + "@ 2 1 1 @ 2 1 1 @ 2 1 1 @ 2 1 1 @ 2 0", 7033);
    }

    /** A class of the same name is found before SUPER is read, and after THIS numbers a class. */
    private static void order() {
        ClassFileIndex x = new ClassFileIndex();
        Due.due("first A", Files.read(x, "t:A k:1", "0 2 0 0 0 0 0"), 0);
        Due.due("second A", Files.read(x, "t:A k:1", "0 2 0 0 0 0 0"), -9009);
        Due.due("A elsewhere", Files.read(x, "i:1 k:4 t:B t:A", "1 2 0 0 0 0 0"), -9017);
        Due.due("A with a wrong super", Files.read(x, "t:A k:1", "0 2 9"), -9009);
        Due.due("A, cut before super", Files.read(x, "t:A k:1", "0 2"), -9009);
        Due.due("A with wrong flags", Files.read(x, "t:A k:1", "4 2"), -4008);
        Due.due("A, but this is wrong", Files.read(x, "t:A k:1", "0 1"), -6009);
        Due.due("AA", Files.read(x, "t:AA k:1", "0 2 0 0 0 0 0"), 1);
        Due.due("a", Files.read(x, "t:a k:1", "0 2 0 0 0 0 0"), 2);
        Due.due("wrong B", Files.read(x, "t:B k:1", "0 2 0 0 0 0 0 1"), -8015);
        Due.due("B after a wrong B", Files.read(x, "t:B k:1", "0 2 0 0 0 0 0"), 3);
        Due.due("B is known as a super only", Files.read(x, "t:C k:1 t:D k:3", "0 2 4 0 0 0 0"), 4);
        Due.due("D", Files.read(x, "t:D k:1", "0 2 0 0 0 0 0"), 5);
    }

    private static void refusedFilesLeaveNothing() {
        ClassFileIndex x = new ClassFileIndex();
        Files.load(x, "t:A k:1 t:x", "1 2 0 0 0 0 0");
        Due.due("wrong file", Files.read(x, "t:N k:1 t:y t:z", "1 2 0 0 0 0 0 0"), -8021);
        Due.due("length() after a wrong file", x.length(), 0);
        Due.due("classes() after a wrong file", x.classes(), 1);
        Due.due("texts() after a wrong file", x.texts(), 2);
        Due.due("letter of a text that was refused", x.letter(2, 0), -1);
        Due.due("find of a text that was refused", x.find(2), -1);
        Due.due("right file", Files.read(x, "t:M k:1", "1 2 0 0 0 0 0"), 1);
        Due.due("length() after a right file", x.length(), 0);
        Due.due("texts()", x.texts(), 3);
        Due.due("letter(2, 0)", x.letter(2, 0), 'M');
        Due.due("name(1)", x.name(1), 2);
        Due.due("read() again", x.read(), -1000);
    }

    /** With 16 classes the buffer stays; and 12 texts a file get room. */
    private static void sixteenClasses() {
        ClassFileIndex x = new ClassFileIndex();
        for (int i = 0; i < 16; i++) {
            StringBuilder constants = new StringBuilder("t:n" + (char) ('A' + i) + " k:1");
            for (int k = 0; k < 10; k++) {
                constants.append(" t:").append((char) ('a' + i)).append((char) ('a' + k)).append("123456");
            }
            Due.due("read " + i, Files.read(x, constants.toString(), "0 2 0 0 0 0 0"), i);
        }
        Due.due("classes()", x.classes(), 16);
        Due.due("texts()", x.texts(), 16 * 11);
        Due.due("last text", x.letter(16 * 11 - 1, 7), '6');
        Due.due("read() of nothing with 16", x.read(), -1);
        x.put(0xCAFE, 2);
        Due.due("read() with 16", x.read(), -1);
        Due.due("length() after it", x.length(), 2);
        Due.due("classes() after it", x.classes(), 16);
        Due.due("texts() after it", x.texts(), 16 * 11);
        Due.due("name(15)", x.name(15), 15 * 11);
        Due.due("name(16)", x.name(16), -1);
        Due.due("find(15 * 11)", x.find(15 * 11), 15);
    }
}

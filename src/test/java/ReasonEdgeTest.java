import java.util.ArrayList;
import java.util.Arrays;
import java.util.List;

/**
 * "The first thing that is wrong decides": the nine reasons with their places, alone and by two and two
 * in one file, which is cut, followed by a byte, or named as a class that is there already, too.
 */
public final class ReasonEdgeTest {
    /** The flags stand at place 21, and the last row, of depth 4, has no value. */
    private static final int[] FILE = Files.file("t:A k:1 k:6 i:7 t:e t:B",
            "1 2 3 3 1 3 2 2 1 5 I 4 3 1 5 [ 1 [ 1 [ 1 [ 0 1 5 s 6");
    private static final int FLAGS = 21;
    private static final int THIS = 22;
    private static final int LAST_LENGTH = 43;
    private static final int NOWHERE = -1;

    /**
     * @param at where the file gets another byte, or NOWHERE
     * @param moment when it is found: four times the place of the byte that is read last, and a little
     *         more or less when something else is found at the same byte
     */
    private record Fault(int at, int newByte, int reason, int place, int moment) {
        boolean isCut() {
            return reason == 1;
        }

        boolean follows() {
            return reason == 8;
        }

        boolean hasName() {
            return reason == 9;
        }

        int answer() {
            return -(1000 * reason + place);
        }

        boolean comesBefore(Fault other) {
            return moment == other.moment ? place < other.place : moment < other.moment;
        }
    }

    private static final List<Fault> FAULTS = new ArrayList<>();

    public static void main(String[] args) {
        Due.due("the file without a fault", Files.read(new ClassFileIndex(), FILE), 0);
        startBytes();
        findFaults();
        int[] seen = new int[10];
        for (Fault one : FAULTS) {
            seen[one.reason]++;
            dueRead(List.of(one), one);
            changesNothing(one);
            for (Fault other : FAULTS) {
                if (canMeet(one, other)) {
                    dueRead(List.of(one, other), one.comesBefore(other) ? one : other);
                }
            }
        }
        for (int reason = 1; reason <= 9; reason++) {
            Due.due("reason " + reason + " was tried", seen[reason] > 0, true);
        }
        Due.finish();
    }

    /** "one of the first two bytes isn't as told (its place)" */
    private static void startBytes() {
        for (int b = 0; b <= 255; b++) {
            int[] first = FILE.clone();
            first[0] = b;
            Due.due("first byte " + b, Files.read(new ClassFileIndex(), first), b == 202 ? 0 : -2000);
            int[] second = FILE.clone();
            second[1] = b;
            Due.due("second byte " + b, Files.read(new ClassFileIndex(), second), b == 254 ? 0 : -2001);
            int want = b == 202 ? -1001 : -2000;
            Due.due("only byte " + b, Files.read(new ClassFileIndex(), new int[] {b}), want);
        }
    }

    private static void findFaults() {
        addAll(2, 0, 201, 1, 253);
        addAll(3, 3, 2, 6, 0, 8, 9, 10, 255, 15, 4, 18, 6);
        addAll(4, 2, 13, 4, 11, 16, 12, 19, 255);
        addAll(5, 5, 32, 17, 127, 20, 0);
        addAll(4, 21, 4, 25, 5, 27, 5, 29, 5);
        addAll(6, 22, 1, 23, 7, 24, 4, 26, 0, 28, 5, 30, 2, 32, 1);
        addAll(3, 31, 72, 36, 90, 38, 92, 40, 63, 42, 0, 46, 116);
        addAll(6, 33, 0, 35, 3, 45, 13, 47, 2);
        addAll(4, 34, 5, 37, 5, 39, 255, 41, 5, 43, 5, 44, 5);
        // A class constant's byte is looked at after the last constant and before the flags.
        FAULTS.add(new Fault(7, 0, 6, 7, 4 * FLAGS - 1));
        FAULTS.add(new Fault(9, 4, 6, 9, 4 * FLAGS - 1));
        // One value more in the last row: what stands behind it then has depth 5, unless the file ends.
        FAULTS.add(new Fault(LAST_LENGTH, 1, 7, LAST_LENGTH + 1, 4 * (LAST_LENGTH + 1) + 1));
        // After THIS was found to be a class, before SUPER.
        FAULTS.add(new Fault(NOWHERE, 0, 9, THIS, 4 * THIS + 3));
        FAULTS.add(new Fault(NOWHERE, 0, 8, FILE.length, 4 * FILE.length + 2));
        for (int length = 0; length < FILE.length; length++) {
            FAULTS.add(new Fault(NOWHERE, 0, 1, length, 4 * length));
        }
    }

    /** Places and the wrong bytes there. */
    private static void addAll(int reason, int... placesAndBytes) {
        for (int i = 0; i < placesAndBytes.length; i += 2) {
            int place = placesAndBytes[i];
            FAULTS.add(new Fault(place, placesAndBytes[i + 1], reason, place, 4 * place + 2));
        }
    }

    private static boolean canMeet(Fault one, Fault other) {
        boolean samePlace = one.at != NOWHERE && one.at == other.at;
        boolean cutAndFollowed = one.isCut() && other.follows() || one.follows() && other.isCut();
        return one != other && !samePlace && !cutAndFollowed && !(one.isCut() && other.isCut());
    }

    private static int[] fileWith(List<Fault> faults) {
        int[] bytes = FILE.clone();
        int length = FILE.length;
        for (Fault one : faults) {
            if (one.at != NOWHERE) {
                bytes[one.at] = one.newByte;
            }
            length = one.isCut() ? one.place : one.follows() ? FILE.length + 1 : length;
        }
        return Arrays.copyOf(bytes, length);
    }

    /** Five texts, of which the file has A and B. When its name is to be there already, A is a class, else Z. */
    private static void readBefore(ClassFileIndex x, boolean hasName) {
        Files.load(x, "t:Z t:A t:B k:1 k:2 k:3", hasName ? "2 5 6 4 0 1 6 0 0" : "2 4 6 5 0 1 6 0 0");
        Files.load(x, "t:Y k:1 t:f t:B k:4", "1 2 5 0 0 1 5 1 3 s 3 1 3 c 2");
    }

    private static void dueRead(List<Fault> faults, Fault first) {
        boolean hasName = faults.stream().anyMatch(Fault::hasName);
        ClassFileIndex x = new ClassFileIndex();
        readBefore(x, hasName);
        Due.due("read() with " + faults, Files.read(x, fileWith(faults)), first.answer());
        Due.due("length() with " + faults, x.length(), 0);
        Due.due("classes() with " + faults, x.classes(), 2);
        Due.due("texts() with " + faults, x.texts(), 5);
    }

    /** "Otherwise the buffer is empty afterwards .. and classes and texts stay as they were." */
    private static void changesNothing(Fault fault) {
        int[] wrong = fileWith(List.of(fault));
        State.due("after " + fault, x -> {
            readBefore(x, fault.hasName());
            Files.read(x, wrong);
        }, x -> readBefore(x, fault.hasName()));
        State.due("after " + fault + " and a right file", x -> {
            readBefore(x, fault.hasName());
            Files.read(x, wrong);
            Files.load(x, "t:z t:X k:2 t:A k:4", "3 3 5 0 1 3 1 5 1 1 s 2 0");
        }, x -> {
            readBefore(x, fault.hasName());
            Files.load(x, "t:z t:X k:2 t:A k:4", "3 3 5 0 1 3 1 5 1 1 s 2 0");
        });
    }
}

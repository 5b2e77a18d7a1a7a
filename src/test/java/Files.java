/**
 * Writes files in words. A number is a byte; I s c [ @ are the first bytes of values; t:abc is a
 * text constant, i:7 an int constant, k:2 a class constant whose name is constant 2.
 */
final class Files {
    private Files() {
    }

    static int[] bytes(String words) {
        int[] all = new int[1000];
        int n = 0;
        for (String word : words.trim().split("\\s+")) {
            if (word.isEmpty()) {
                continue;
            }
            String rest = word.length() > 1 ? word.substring(2) : "";
            if (word.startsWith("t:")) {
                all[n++] = 1;
                all[n++] = rest.length();
                for (int i = 0; i < rest.length(); i++) {
                    all[n++] = rest.charAt(i);
                }
            } else if (word.startsWith("i:")) {
                int number = Integer.parseInt(rest);
                all[n++] = 3;
                for (int shift = 24; shift >= 0; shift -= 8) {
                    all[n++] = (number >>> shift) & 255;
                }
            } else if (word.startsWith("k:")) {
                all[n++] = 7;
                all[n++] = Integer.parseInt(rest);
            } else if (Character.isDigit(word.charAt(0))) {
                all[n++] = Integer.parseInt(word);
            } else {
                all[n++] = word.charAt(0);
            }
        }
        return java.util.Arrays.copyOf(all, n);
    }

    /** The start, the constants with their number before them, and then the rest. */
    static int[] file(String constants, String rest) {
        String words = constants.trim();
        int number = words.isEmpty() ? 0 : words.split("\\s+").length;
        return bytes("202 254 " + number + " " + words + " " + rest);
    }

    static void put(ClassFileIndex x, int[] bytes) {
        for (int from = 0; from < bytes.length; from += 8) {
            int n = Math.min(8, bytes.length - from);
            long number = 0;
            for (int i = 0; i < n; i++) {
                number = number << 8 | bytes[from + i];
            }
            if (!x.put(number, n)) {
                throw new IllegalStateException("the buffer did not take the file");
            }
        }
    }

    static int read(ClassFileIndex x, int[] bytes) {
        put(x, bytes);
        return x.read();
    }

    static int read(ClassFileIndex x, String constants, String rest) {
        return read(x, file(constants, rest));
    }

    /** For files that must be right, so that a slip in a test is seen. */
    static void load(ClassFileIndex x, String constants, String rest) {
        int answer = read(x, constants, rest);
        if (answer < 0) {
            throw new IllegalStateException(answer + " for " + constants + " | " + rest);
        }
    }

    /** What a new object answers to the file. */
    static int readNew(String constants, String rest) {
        return read(new ClassFileIndex(), constants, rest);
    }
}

/** Bits as text, the first of which is the lowest one of the first byte. */
final class Bits {
    private Bits() {
    }

    static int[] bytes(String bits) {
        int[] bytes = new int[(bits.length() + 7) / 8];
        for (int i = 0; i < bits.length(); i++) {
            bytes[i / 8] |= (bits.charAt(i) - '0') << (i % 8);
        }
        return bytes;
    }

    /** A number's bits, the lowest one first. */
    static String lowestFirst(int number, int n) {
        StringBuilder bits = new StringBuilder();
        for (int i = 0; i < n; i++) {
            bits.append((number >> i) & 1);
        }
        return bits.toString();
    }
}

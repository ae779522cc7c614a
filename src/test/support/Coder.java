import java.util.function.Consumer;

/** A StateCoder that counts its calls, as what one answers after 512 of them is free, and notes its answers. */
final class Coder {
    private static final int MOST_CALLS = 512;
    private final StateCoder coder = new StateCoder();
    private final StringBuilder answers = new StringBuilder();
    private int calls = 0;

    boolean write(long bytes, int n) {
        return answered("write " + bytes + " " + n, coder.write(bytes, n));
    }

    void turn() {
        coder.turn();
        answered("turn", true);
    }

    void clear() {
        coder.clear();
        answered("clear", true);
    }

    boolean place(int p) {
        return answered("place " + p, coder.place(p));
    }

    int at() {
        return answered("at", coder.at());
    }

    boolean count(int symbol, int c) {
        return answered("count " + symbol + " " + c, coder.count(symbol, c));
    }

    int countAll() {
        return answered("countAll", coder.countAll());
    }

    boolean share(int order) {
        return answered("share " + order, coder.share(order));
    }

    boolean just(int order) {
        return answered("just " + order, coder.just(order));
    }

    int describe() {
        return answered("describe", coder.describe());
    }

    int read(int most, int last) {
        return answered("read " + most + " " + last, coder.read(most, last));
    }

    int about(int what) {
        return answered("about " + what, coder.about(what));
    }

    int points(int symbol) {
        return answered("points " + symbol, coder.points(symbol));
    }

    int cell(int k, int what) {
        return answered("cell " + k + " " + what, coder.cell(k, what));
    }

    int encode() {
        return answered("encode", coder.encode());
    }

    int decode(int n) {
        return answered("decode " + n, coder.decode(n));
    }

    int size() {
        return answered("size", coder.size());
    }

    int byteAt(int k) {
        return answered("byteAt " + k, coder.byteAt(k));
    }

    int calls() {
        return calls;
    }

    int callsLeft() {
        return MOST_CALLS - calls;
    }

    /** What all the calls answer that something makes. */
    String answersOf(Consumer<Coder> some) {
        int before = answers.length();
        some.accept(this);
        return answers.substring(before);
    }

    private int answered(String call, int answer) {
        note(call, "" + answer);
        return answer;
    }

    private boolean answered(String call, boolean answer) {
        note(call, "" + answer);
        return answer;
    }

    private void note(String call, String answer) {
        answers.append(call).append(": ").append(answer).append("; ");
        calls++;
        if (calls == MOST_CALLS + 1) {
            Checks.due("calls of one object", calls, MOST_CALLS);
        }
    }

    static Coder withPoints(int order, int... points) {
        Coder x = new Coder();
        x.setPoints(order, points);
        return x;
    }

    /** A share of order 5 in which one symbol has all. */
    static Coder onlySymbol(int symbol) {
        Coder x = new Coder();
        x.setOnly(symbol, 5);
        return x;
    }

    static Coder withBits(String bits) {
        Coder x = new Coder();
        x.appendBits(bits);
        return x;
    }

    /** IN has n times a symbol, which has all of a share of order 5. */
    static Coder fullOf(int symbol, int n) {
        Coder x = new Coder();
        x.fill(symbol, n);
        return x;
    }

    /** The first symbols have these points; all other counts must be 0. */
    void setPoints(int order, int... points) {
        for (int s = 0; s < points.length; s++) {
            count(s, points[s] == -1 ? 65535 : points[s]);
        }
        Checks.due("just these points", just(order), true);
    }

    void setOnly(int symbol, int order) {
        count(symbol, 1 << order);
        Checks.due("just one symbol", just(order), true);
    }

    /** With all counts 0 and IN empty: a share of one symbol takes no bits for a row of any length. */
    void fill(int symbol, int n) {
        setOnly(symbol, 5);
        write(32, 1);
        Checks.due("a row of one symbol", decode(n), n);
        turn();
    }

    void appendBits(String bits) {
        appendBytes(Bits.bytes(bits));
    }

    void appendBytes(int... bytes) {
        for (int i = 0; i < bytes.length; i += 8) {
            int n = Math.min(8, bytes.length - i);
            long number = 0;
            for (int j = 0; j < n; j++) {
                number = number << 8 | bytes[i + j];
            }
            Checks.due("bytes appended", write(number, n), true);
        }
    }

    int[] firstPoints(int n) {
        int[] points = new int[n];
        for (int s = 0; s < n; s++) {
            points[s] = points(s);
        }
        return points;
    }

    int[] outBytes() {
        int[] bytes = new int[size()];
        for (int k = 0; k < bytes.length; k++) {
            bytes[k] = byteAt(k);
        }
        return bytes;
    }

    /** IN's bytes: with -1 points for all symbols, encode writes 255 less each symbol, the last one first, and a 1. */
    int[] inBytes() {
        for (int s = 0; s < 256; s++) {
            count(s, 65535);
        }
        Checks.due("all -1", just(8), true);
        place(0);
        int length = Math.max(encode() - 1, 0);
        int[] bytes = new int[length];
        for (int k = 0; k < length; k++) {
            bytes[k] = 255 - byteAt(length - 1 - k);
        }
        return bytes;
    }

    /** How many bytes IN has, by what place takes; PLACE is there then. */
    int inLength() {
        int length = 0;
        for (int step = 4096; step > 0; step /= 2) {
            length += place(length + step) ? step : 0;
        }
        place(length);
        return length;
    }
}

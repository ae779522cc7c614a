import java.util.Arrays;
import java.util.function.Consumer;

/** The boundary cases that the promises name, a method for each sentence; a refused call must change nothing. */
public final class PromiseBoundaryTest extends Checks {
    private static final int LEAST = Integer.MIN_VALUE;
    private static final int MOST = Integer.MAX_VALUE;

    public static void main(String[] args) {
        newObject();
        writeHowMany();
        writeUpToTheLimit();
        writeOrder();
        turn();
        clear();
        place();
        at();
        countOfSymbol();
        countOfRange();
        countAll();
        shareOrder();
        shareWithoutCounts();
        shareOfManySymbols();
        justMinusOne();
        justOrder();
        justTogether();
        describe();
        readAndPlace();
        readAboveMost();
        readPointsAboveLast();
        readZerosAboveLast();
        readLacking();
        readCut();
        readFirst();
        readRefused();
        about();
        points();
        cell();
        encodeWithoutShare();
        encodeNoByte();
        encodeNoWeight();
        encodeLimit();
        decodeHowMany();
        decodeNoByte();
        decodeBitsLack();
        decodeBitsLeft();
        size();
        byteAt();
        end();
    }

    /** IN, OUT, PLACE and counts that all differ from those of a new object; the counts are not the share's. */
    private static void rich(Coder x) {
        x.write(0x0001020001000203L, 8);
        x.countAll();
        x.share(6);
        x.encode();
        x.count(3, 700);
        x.count(200, 65535);
        x.place(3);
    }

    private static void nothing(Coder x) {
    }

    private static void newObject() {
        sentence("StateCoder(): No share, all counts 0.");
        Coder x = new Coder();
        due("order", x.about(0), -1);
        for (int order = 5; order <= 12; order++) {
            due("share of all 0", x.share(order), false);
            due("just of all 0", x.just(order), false);
        }
        due("a count", x.count(9, 1) && x.share(12), true);
        for (int s = 0; s < 256; s++) {
            due("points " + s, x.points(s), s == 9 ? 4096 : 0);
        }
    }

    private static void writeHowMany() {
        sentence("write: false, refused, when n is not 1 .. 8");
        for (int n = 1; n <= 8; n++) {
            Coder x = new Coder();
            due("n " + n, x.write(-1L, n), true);
            due("n " + n + ", length", x.inLength(), n);
        }
        for (int n : new int[] {0, 9, -1, -8, 16, LEAST, MOST}) {
            refused("new, n " + n, PromiseBoundaryTest::nothing, x -> x.write(0x0102030405060708L, n), false);
            refused("n " + n, PromiseBoundaryTest::rich, x -> x.write(0x0102030405060708L, n), false);
        }
    }

    private static void writeUpToTheLimit() {
        sentence("write: false, refused, when there would be more than 6000");
        for (int i = 1; i <= 8; i++) {
            int n = i;
            Coder below = Coder.fullOf(9, 5999 - n);
            due("5999 in the end", below.write(0, n) && below.inLength() == 5999, true);
            Coder just = Coder.fullOf(9, 6000 - n);
            due("6000 in the end", just.write(0, n) && just.inLength() == 6000, true);
            refused("6001 in the end", x -> x.fill(9, 6001 - n), x -> x.write(0, n), false);
            refused("6000 before", x -> x.fill(9, 6000), x -> x.write(0, n), false);
        }
        Coder x = Coder.fullOf(9, 5999);
        due("8 are too many", x.write(0, 8), false);
        due("2 are too many", x.write(0, 2), false);
        due("1 is not", x.write(0, 1), true);
        x.clear();
        due("8 when IN is empty again", x.write(0, 8), true);
    }

    private static void writeOrder() {
        sentence("write: Appends to IN the n lowest bytes of bytes, the highest of them first");
        int[] eight = {0x81, 0x82, 0x83, 0x84, 0x85, 0x86, 0x87, 0x88};
        for (int n = 1; n <= 8; n++) {
            Coder x = new Coder();
            x.write(0x8182838485868788L, n);
            due("n " + n, x.inBytes(), Arrays.copyOfRange(eight, 8 - n, 8));
        }
        Coder x = new Coder();
        x.write(Long.MIN_VALUE, 8);
        x.write(Long.MIN_VALUE, 7);
        x.write(-1L, 1);
        x.write(256, 1);
        due("highest and lowest bits", x.inBytes(), new int[] {128, 0, 0, 0, 0, 0, 0, 0, 0, 0, 0, 0, 0, 0, 0, 255, 0});
    }

    private static void turn() {
        sentence("turn: IN becomes OUT, PLACE 0.");
        Coder empty = new Coder();
        empty.write(-1L, 8);
        empty.place(8);
        empty.turn();
        due("OUT empty: IN", empty.inLength(), 0);
        due("OUT empty: PLACE", empty.at(), 0);
        Coder one = Coder.onlySymbol(7);
        one.write(0x07070707, 4);
        one.place(3);
        due("OUT of 1", one.encode(), 1);
        one.turn();
        due("OUT of 1: PLACE", one.at(), 0);
        due("OUT of 1: IN", one.inLength(), 1);
        due("OUT of 1: its byte", one.inBytes(), new int[] {32});
        Coder full = Coder.onlySymbol(7);
        full.write(32, 1);
        due("OUT of 6000", full.decode(6000), 6000);
        full.place(1);
        full.turn();
        due("OUT of 6000: PLACE", full.at(), 0);
        due("OUT of 6000: symbols", full.countAll(), 6000);
        due("OUT of 6000: IN is full", full.write(0, 1), false);
        full.clear();
        full.turn();
        due("OUT is another row than IN", full.inLength(), 6000);
    }

    private static void clear() {
        sentence("clear: IN is empty, PLACE 0; all counts are 0.");
        Coder x = new Coder();
        x.clear();
        due("a new one: IN", x.inLength(), 0);
        Coder y = Coder.fullOf(9, 6000);
        y.place(6000);
        y.count(0, 1);
        y.count(255, 65535);
        y.clear();
        due("PLACE", y.at(), 0);
        due("IN", y.inLength(), 0);
        for (int order = 5; order <= 12; order++) {
            due("counts", y.share(order) || y.just(order), false);
        }
        due("the share stays", y.about(0) == 5 && y.points(9) == 32, true);
        due("OUT stays", y.size() == 6000 && y.byteAt(5999) == 9, true);
        due("a count", y.count(7, 1) && y.share(5) && y.points(7) == 32, true);
        for (int s : new int[] {0, 9, 255}) {
            due("no count of " + s, y.points(s), 0);
        }
    }

    private static void place() {
        sentence("place: false, refused, when p is not 0 .. the length of IN");
        Coder empty = new Coder();
        due("empty, 0", empty.place(0), true);
        refused("empty, 1", PromiseBoundaryTest::nothing, x -> x.place(1), false);
        refused("empty, -1", PromiseBoundaryTest::nothing, x -> x.place(-1), false);
        Coder y = new Coder();
        rich(y);
        for (int p : new int[] {0, 1, 7, 8}) {
            due("place " + p, y.place(p), true);
            due("at " + p, y.at(), p);
        }
        for (int p : new int[] {-1, 9, 6000, LEAST, MOST}) {
            refused("place " + p, PromiseBoundaryTest::rich, x -> x.place(p), false);
        }
        Coder full = Coder.fullOf(9, 6000);
        due("full, 5999", full.place(5999) && full.at() == 5999, true);
        due("full, 6000", full.place(6000) && full.at() == 6000, true);
        refused("full, 6001", x -> x.fill(9, 6000), x -> x.place(6001), false);
        Coder grows = new Coder();
        due("behind the end", grows.write(1, 3) && grows.place(4), false);
        due("the end is behind it now", grows.write(1, 1) && grows.place(4), true);
        grows.clear();
        due("no more", grows.place(4), false);
    }

    private static void at() {
        sentence("at: Where PLACE is.");
        Coder x = new Coder();
        due("at first", x.at(), 0);
        x.write(-1L, 8);
        due("writing leaves it", x.at(), 0);
        due("at the length of IN", x.place(8) && x.at() == 8, true);
        due("refused", x.place(9) || x.at() != 8, false);
        due("writing leaves it there", x.write(-1L, 8) && x.at() == 8, true);
        x.countAll();
        due("counting leaves it there", x.at(), 8);
    }

    private static void countOfSymbol() {
        sentence("count: false, refused, when symbol is none");
        for (int symbol : new int[] {0, 1, 254, 255}) {
            Coder x = new Coder();
            due("symbol " + symbol, x.count(symbol, 32) && x.just(5) && x.points(symbol) == 32, true);
        }
        for (int symbol : new int[] {-1, 256, 257, LEAST, MOST}) {
            refused("new, symbol " + symbol, PromiseBoundaryTest::nothing, x -> x.count(symbol, 32), false);
            refused("symbol " + symbol, PromiseBoundaryTest::rich, x -> x.count(symbol, 32), false);
        }
    }

    private static void countOfRange() {
        sentence("count: false, refused, when c is not 0 .. 65535");
        Coder x = new Coder();
        due("c 0", x.count(4, 0), true);
        due("c 0 is none", x.share(5), false);
        due("c 1", x.count(4, 1) && x.share(5), true);
        due("c 65534", x.count(4, 65534) && x.count(5, 65534) && x.share(5) && x.points(4) == 16, true);
        due("c 65535", x.count(4, 65535) && x.share(12) && x.points(4) == 2048, true);
        due("c 65535 is one more", x.count(5, 65535) && x.count(5, 1) && x.share(12) && x.points(5) == -1, true);
        due("c 0 again", x.count(5, 0) && x.share(12) && x.points(5) == 0, true);
        for (int c : new int[] {-1, 65536, -65536, LEAST, MOST}) {
            refused("new, c " + c, PromiseBoundaryTest::nothing, y -> y.count(0, c), false);
            refused("c " + c, PromiseBoundaryTest::rich, y -> y.count(0, c), false);
        }
    }

    private static void countAll() {
        sentence("countAll: how often each symbol stands in IN from PLACE on; how many bytes that are");
        Coder empty = Coder.onlySymbol(9);
        due("IN empty", empty.countAll(), 0);
        due("IN empty: all counts are 0", empty.share(5) || empty.just(5), false);
        Coder x = new Coder();
        x.write(0x00FF00, 3);
        x.count(7, 1);
        x.place(3);
        due("at the end", x.countAll(), 0);
        due("at the end: all counts are 0", x.share(5), false);
        x.place(2);
        due("one before the end", x.countAll(), 1);
        due("its symbol", x.share(5) && x.points(0) == 32 && x.points(255) == 0, true);
        x.place(1);
        due("two before the end", x.countAll(), 2);
        due("each once", x.share(5) && x.points(0) == 16 && x.points(255) == 16, true);
        x.place(0);
        due("all", x.countAll(), 3);
        due("0 is there twice", x.share(5) && x.points(0) == 21 && x.points(255) == 11, true);
        due("the count of before is gone", x.points(7), 0);
        Coder full = Coder.fullOf(255, 6000);
        due("IN full", full.countAll(), 6000);
        // 6000 is above 4096, so it is no points; 4096 from PLACE on are.
        due("its count is 6000", full.just(12), false);
        due("4096 from PLACE on", full.place(1904) && full.countAll() == 4096 && full.just(12), true);
        due("4095 from PLACE on", full.place(1905) && full.countAll() == 4095 && !full.just(12), true);
    }

    private static void shareOrder() {
        sentence("share: False, refused, when order is not 5 .. 12");
        for (int order = 5; order <= 12; order++) {
            Coder x = new Coder();
            rich(x);
            due("order " + order, x.share(order) && x.about(0) == order, true);
        }
        for (int order : new int[] {4, 13, 0, -1, 37, LEAST, MOST}) {
            refused("order " + order, PromiseBoundaryTest::rich, x -> x.share(order), false);
            refused("without a share, order " + order, x -> x.count(1, 1), x -> x.share(order), false);
        }
    }

    private static void shareWithoutCounts() {
        sentence("share: False, refused, when all counts are 0");
        for (int i = 5; i <= 12; i++) {
            int order = i;
            refused("new, order " + order, PromiseBoundaryTest::nothing, x -> x.share(order), false);
        }
        refused("counts 0 again", x -> {
            rich(x);
            x.place(8);
            x.countAll();
        }, x -> x.share(6), false);
        Coder one = new Coder();
        due("one count of 1, symbol 255", one.count(255, 1) && one.share(5) && one.points(255) == 32, true);
    }

    private static void shareOfManySymbols() {
        sentence("share: False, refused, when more symbols have counts than the order has points");
        for (int i = 5; i <= 7; i++) {
            int order = i;
            Coder below = new Coder();
            countFirst(below, (1 << order) - 1);
            due("one below", below.share(order) && below.points(0) == 2 && below.points(1) == 1, true);
            Coder just = new Coder();
            countFirst(just, 1 << order);
            due("as many", just.share(order) && just.points(0) == 1 && just.points((1 << order) - 1) == 1, true);
            refused("one above", x -> {
                x.setOnly(99, 5);
                countFirst(x, (1 << order) + 1);
            }, x -> x.share(order), false);
        }
        Coder all = new Coder();
        countFirst(all, 256);
        due("256 of order 8", all.share(8) && all.points(0) == 1 && all.points(255) == 1, true);
        due("256 of order 9", all.share(9) && all.points(0) == 2 && all.points(255) == 2, true);
        due("256 of order 7", all.share(7), false);
        due("it stays", all.about(0), 9);
    }

    /** The first n symbols have a count of 1 each, all others 0. */
    private static void countFirst(Coder x, int n) {
        x.clear();
        int[] symbols = new int[n];
        for (int s = 0; s < n; s++) {
            symbols[s] = s;
        }
        x.appendBytes(symbols);
        due("as many symbols", x.countAll(), n);
    }

    private static void justMinusOne() {
        sentence("just: each symbol has its count as its points, but -1 for a count of 65535");
        Coder x = new Coder();
        due("65535", x.count(0, 65535) && x.count(1, 31) && x.just(5) && x.points(0) == -1, true);
        due("65534 is no -1", x.count(0, 65534) && x.just(5), false);
        due("1", x.count(0, 1) && x.just(5) && x.points(0) == 1, true);
        due("0", x.count(0, 0) && x.count(1, 32) && x.just(5) && x.points(0) == 0, true);
        Coder y = new Coder();
        due("4096", y.count(255, 4096) && y.just(12) && y.points(255) == 4096, true);
        due("4095 and 65535", y.count(255, 4095) && y.count(0, 65535) && y.just(12) && y.points(255) == 4095, true);
    }

    private static void justOrder() {
        sentence("just: False, refused, when order is not 5 .. 12");
        for (int order = 5; order <= 12; order++) {
            due("order " + order, Coder.withPoints(order, 1 << order).about(0), order);
        }
        for (int order : new int[] {4, 13}) {
            refused("order " + order + ", together 2^order", x -> {
                x.setOnly(1, 6);
                x.count(1, 1 << order);
            }, x -> x.just(order), false);
        }
        for (int order : new int[] {0, -1, -27, 37, LEAST, MOST}) {
            refused("order " + order, x -> x.setOnly(1, 5), x -> x.just(order), false);
        }
        refused("order 0, together 1", x -> x.count(1, 1), x -> x.just(0), false);
        refused("order 32, together 1", x -> x.count(1, 1), x -> x.just(32), false);
    }

    private static void justTogether() {
        sentence("just: False, refused, when their weights together are not 2^order");
        for (int i = 5; i <= 12; i++) {
            int order = i;
            int whole = 1 << order;
            for (int c : new int[] {whole - 2, whole, 2 * whole - 1, whole / 2 - 1}) {
                refused("order " + order + ", 1 and " + c, x -> {
                    x.setOnly(0, 5);
                    x.count(0, 1);
                    x.count(255, c);
                }, x -> x.just(order), false);
            }
            Coder x = new Coder();
            due("1 and one less", x.count(0, 1) && x.count(255, whole - 1) && x.just(order), true);
            due("-1 and one less", x.count(0, 65535) && x.just(order), true);
            refused("order " + order + ", all counts 0", PromiseBoundaryTest::nothing, y -> y.just(order), false);
        }
        // 256 of 65534 wrap no sum of weights.
        Coder y = new Coder();
        for (int s = 0; s < 256; s++) {
            y.count(s, 65534);
        }
        for (int order = 5; order <= 12; order++) {
            due("256 of 65534", y.just(order), false);
        }
    }

    private static void describe() {
        sentence("describe: -1, refused, without a share");
        refused("new", PromiseBoundaryTest::nothing, Coder::describe, -1);
        refused("IN and counts, no share", x -> {
            x.write(0x0102030405060708L, 8);
            x.countAll();
            x.place(2);
            x.share(4);
        }, Coder::describe, -1);
        refused("a share that was not read", x -> {
            x.write(0, 1);
            x.read(12, 255);
        }, Coder::describe, -1);
        Coder x = Coder.onlySymbol(0);
        due("with one", x.describe(), 2);
        due("with one, OUT", x.outBytes(), new int[] {240, 3});
        due("again", x.describe(), 2);
        due("behind a longer OUT", x.write(32, 1) && x.decode(6000) == 6000 && x.describe() == 2, true);
        due("behind a longer OUT, its bytes", x.outBytes(), new int[] {240, 3});
    }

    /** A share of another kind, and IN with a byte before PLACE and these bits behind it. */
    private static Consumer<Coder> behindOne(String bits) {
        return x -> {
            x.setOnly(77, 6);
            x.encode();
            x.write(0xFF, 1);
            x.appendBits(bits);
            x.place(1);
        };
    }

    private static void isRead(String what, String bits, int most, int last, int... points) {
        Coder x = new Coder();
        behindOne(bits).accept(x);
        int together = Arrays.stream(points).map(Math::abs).sum();
        int order = x.read(most, last);
        due(what + ", order", 1 << Math.max(order, 0), together);
        due(what + ", points", x.firstPoints(points.length), points);
        due(what + ", PLACE", x.at(), 1 + (bits.length() + 7) / 8);
        due(what + ", 77", x.points(77), 0);
    }

    private static void notRead(String what, String bits, int most, int last, int answer) {
        refused(what + ", last " + last, behindOne(bits), x -> x.read(most, last), answer);
    }

    private static void readAndPlace() {
        sentence("read: The share becomes what is written in IN from PLACE on, PLACE the byte behind it: its order.");
        isRead("15 bits", "0000" + "00000" + "111111", 5, 255, -1, 31);
        isRead("16 bits", "0000" + "00000" + "01111" + "11", 5, 255, -1, 29, 2);
        isRead("16 bits, -1 at last", "0000" + "00000" + "111110" + "0", 5, 255, -1, 30, -1);
        isRead("17 bits", "0000" + "10000" + "00" + "111111", 5, 255, 0, 32);
        isRead("17 bits, -1 at last", "0000" + "00000" + "01111" + "01" + "0", 5, 255, -1, 29, 1, -1);
        // What stands behind it, in its last byte and in the next ones, is not its.
        Coder x = Coder.withBits("0000" + "111111" + "111111" + "11111111");
        due("ones behind it", x.read(5, 0), 5);
        due("ones behind it, PLACE", x.at(), 2);
        due("ones behind it, points", x.firstPoints(2), new int[] {32, 0});
        for (int order = 5; order <= 12; order++) {
            String all = "1".repeat(order + 1);
            isRead("order " + order, Bits.lowestFirst(order - 5, 4) + all, order, 0, 1 << order);
        }
    }

    private static void readAboveMost() {
        sentence("read: -1 when its order would be above most");
        for (int order = 5; order <= 20; order++) {
            String bits = Bits.lowestFirst(order - 5, 4) + "1".repeat(order + 1);
            for (int most = 5; most <= 12; most++) {
                if (order > most) {
                    notRead("order " + order + ", most " + most, bits, most, 0, -1);
                } else {
                    isRead("order " + order + ", most " + most, bits, most, 0, 1 << order);
                }
            }
        }
    }

    private static void readPointsAboveLast() {
        sentence("read: -2 when a symbol above last would have points");
        String second = "0000" + "011111" + "11";
        notRead("1 has points", second, 5, 0, -2);
        isRead("1 has points, last 1", second, 5, 1, 31, 1);
        isRead("1 has points, last 2", second, 5, 2, 31, 1);
        String single = "0000" + "011111" + "0";
        notRead("1 has -1", single, 5, 0, -2);
        isRead("1 has -1, last 1", single, 5, 1, 31, -1);
        // The symbols 0, 1 and 2 have none, 3 has all.
        String fourth = "0000" + "10000" + "01" + "111111";
        notRead("3 has points", fourth, 5, 2, -2);
        isRead("3 has points, last 3", fourth, 5, 3, 0, 0, 0, 32);
        isRead("3 has points, last 4", fourth, 5, 4, 0, 0, 0, 32);
        String highest = "0000" + "10000" + "11".repeat(84) + "01" + "111111";
        notRead("255 has points", highest, 5, 254, -2);
        Coder x = Coder.withBits(highest);
        due("255 has points, last 255", x.read(5, 255), 5);
        due("255 has points", x.points(255), 32);
    }

    private static void readZerosAboveLast() {
        sentence("read: -2 when a symbol above last would be among those that are said to have none");
        String one = "0000" + "10000" + "10" + "111111";
        notRead("1 is said to have none", one, 5, 0, -2);
        isRead("1 is said to have none, last 2", one, 5, 2, 0, 0, 32);
        String four = "0000" + "10000" + "11" + "10" + "111111";
        for (int last = 0; last <= 3; last++) {
            notRead("up to 4 are said to have none", four, 5, last, -2);
        }
        isRead("up to 4 are said to have none, last 5", four, 5, 5, 0, 0, 0, 0, 0, 32);
        // 85 threes are the symbols 1 .. 255, one more would be 256 .. 258.
        for (int threes = 84; threes <= 86; threes++) {
            String bits = "0000" + "10000" + "11".repeat(threes) + "10" + "111111";
            if (threes == 84) {
                Coder x = Coder.withBits(bits);
                due("253 more", x.read(5, 254), 5);
                due("254 has all", x.points(254), 32);
            } else {
                notRead("beyond 255", bits, 5, 255, -2);
            }
        }
    }

    private static void readLacking() {
        sentence("read: -2 when something lacks when last has its points");
        // 30 points and then 1 and 1; the last number but one leaves 1, or nothing.
        String three = "0000" + "111110" + "01" + "11";
        notRead("2 lack", three, 5, 0, -2);
        notRead("1 lacks", three, 5, 1, -2);
        isRead("nothing lacks", three, 5, 2, 30, 1, 1);
        isRead("nothing lacks, last not reached", three, 5, 3, 30, 1, 1);
        // Last has -1 points, or none by its number, or none by what is said of it.
        notRead("last has -1", "0000" + "00000" + "111111", 5, 0, -2);
        notRead("last has 0", "0000" + "10000" + "00" + "111111", 5, 0, -2);
        notRead("last is said to have none", "0000" + "10000" + "10" + "111111", 5, 1, -2);
        notRead("last is the third of three", "0000" + "10000" + "11" + "00" + "111111", 5, 3, -2);
        isRead("last is behind the three", "0000" + "10000" + "11" + "00" + "111111", 5, 4, 0, 0, 0, 0, 32);
        // Each of 256 symbols has -1: order 8 is whole with the last one, order 9 is not.
        due("256 of -1, order 8", readSingles(8, 255), 8);
        due("256 of -1, order 8, last 254", readSingles(8, 254), -2);
        due("256 of -1, order 9", readSingles(9, 255), -2);
    }

    private static int readSingles(int order, int last) {
        StringBuilder bits = new StringBuilder(Bits.lowestFirst(order - 5, 4));
        for (int lack = 1 << order; lack > (1 << order) - 256; lack--) {
            int shortBits = 31 - Integer.numberOfLeadingZeros(lack + 1);
            // Where R + 1 is one below a power of two, m is 0, and v 0 takes the bit more.
            boolean isLong = (lack + 2 & lack + 1) == 0;
            bits.append("0".repeat(isLong ? shortBits + 1 : shortBits));
        }
        Coder x = Coder.withBits(bits.toString());
        x.write(-1L, 8);
        return x.read(12, last);
    }

    private static void readCut() {
        sentence("read: -3 when IN ends before it");
        refused("IN empty", PromiseBoundaryTest::nothing, x -> x.read(12, 255), -3);
        refused("PLACE at the length of IN", behindOne(""), x -> x.read(12, 255), -3);
        isEndedBefore("15 bits", "0000" + "00000" + "111111");
        isEndedBefore("16 bits", "0000" + "00000" + "01111" + "11");
        isEndedBefore("16 bits, -1 at last", "0000" + "00000" + "111110" + "0");
        isEndedBefore("17 bits", "0000" + "10000" + "00" + "111111");
        isEndedBefore("17 bits, -1 at last", "0000" + "00000" + "01111" + "01" + "0");
        isEndedBefore("order 12", "1110" + "1111111111111");
        isEndedBefore("many zeros", "0000" + "10000" + "11".repeat(12) + "10" + "111111");
        // Order 12: of 12 bits that are there, 4094 is the lowest number that goes on behind them.
        notRead("a long number, its last bit lacks", "1110" + "011111111111", 12, 255, -3);
        notRead("a short number, the next one lacks", "1110" + "101111111111", 12, 255, -3);
        // 16, 12 and 0 points take 15 bits, and 1 bit is left where 2 are due.
        notRead("1 of 2 bits", "0000" + "10001" + "1011" + "10" + "0", 5, 255, -3);
        isRead("2 of 2 bits", "0000" + "10001" + "1011" + "10" + "00" + "111", 5, 255, 16, 12, 0, 4);
        // 20, 11 and 0 points take 15 bits, too, and 1 lacks: a bit would do for -1 points, but 2 are due.
        notRead("1 of 2 bits, 1 lacks", "0000" + "10101" + "0111" + "10" + "0", 5, 255, -3);
        isRead("2 of 2 bits, 1 lacks", "0000" + "10101" + "0111" + "10" + "00" + "0", 5, 255, 20, 11, 0, -1);
        // 12, 8 and 0 points take 16 bits.
        notRead("0 of 2 bits", "0000" + "10110" + "1001" + "100", 5, 255, -3);
        // 9 bits and two threes: 13 bits, then 3 bits, a three and half of one.
        notRead("1 of 2 bits behind threes", "0000" + "10000" + "11" + "11" + "11" + "1", 5, 255, -3);
    }

    /** A share is read from all its bytes, and from no less of them. */
    private static void isEndedBefore(String what, String bits) {
        int[] bytes = Bits.bytes(bits);
        Coder whole = new Coder();
        whole.appendBytes(bytes);
        due(what + ", whole", whole.read(12, 255), 5 + (bytes[0] & 15));
        due(what + ", PLACE at the length of IN", whole.at(), whole.inLength());
        for (int n = 0; n < bytes.length; n++) {
            int[] some = Arrays.copyOf(bytes, n);
            refused(what + ", " + n + " bytes", x -> {
                x.setOnly(77, 6);
                x.appendBytes(some);
            }, x -> x.read(12, 255), -3);
        }
    }

    private static void readFirst() {
        sentence("read: the first of these that comes in reading it; IN's end before a number or the 2 bits that it cuts");
        notRead("-1 before -3", "1000" + "0000", 5, 255, -1);
        notRead("-1 before -2", "1000" + "000000" + "000000", 5, 0, -1);
        // The number of last is cut: what it would leave lacking is not known.
        notRead("-3 before -2 of a number", "0000" + "0111", 5, 0, -3);
        notRead("-3 before -2 of a long number", "1110" + "111111111111", 12, 0, -3);
        // Last has its points, so the next number is not looked at, be it cut or not.
        notRead("-2 before -3 of the next number", "1110" + "101111111111", 12, 0, -2);
        notRead("-3 of the next number", "1110" + "101111111111", 12, 1, -3);
        // 2 has 0 points, and 1 bit is left where 2 are due; they would tell of 3 and those behind it.
        String half = "0000" + "10001" + "1011" + "10" + "1";
        notRead("-3 before -2 of the 2 bits", half, 5, 3, -3);
        notRead("-2 before -3 of the 2 bits", half, 5, 2, -2);
        notRead("-2 before -3, earlier", half, 5, 1, -2);
        // 0 has 0 points, 1 .. 9 are said to have none, and 1 bit is left.
        String threes = "0000" + "10000" + "11" + "11" + "11" + "1";
        notRead("-3, last behind the threes", threes, 5, 10, -3);
        notRead("-2, last the highest of the threes", threes, 5, 9, -2);
        notRead("-2, last within the threes", threes, 5, 8, -2);
    }

    private static void readRefused() {
        sentence("read: -4, refused, when most is not 5 .. 12 or last not 0 .. 255");
        String all = "0000" + "111111";
        for (int most : new int[] {5, 12}) {
            for (int last : new int[] {0, 255}) {
                isRead("most " + most + ", last " + last, all, most, last, 32);
            }
        }
        for (int most : new int[] {4, 13, -1, 0, LEAST, MOST}) {
            notRead("most " + most, all, most, 255, -4);
            refused("new, most " + most, PromiseBoundaryTest::nothing, x -> x.read(most, 0), -4);
        }
        for (int last : new int[] {-1, 256, LEAST, MOST}) {
            notRead("last", all, 12, last, -4);
            refused("new, last " + last, PromiseBoundaryTest::nothing, x -> x.read(5, last), -4);
        }
    }

    private static void about() {
        sentence("about: -1 when there is none, or what is none of these");
        for (int what : new int[] {-1, 0, 1, 2, LEAST, MOST}) {
            refused("no share, what " + what, PromiseBoundaryTest::nothing, x -> x.about(what), -1);
            if (what != 0 && what != 1) {
                refused("what " + what, PromiseBoundaryTest::rich, x -> x.about(what), -1);
            }
        }
        Coder x = new Coder();
        rich(x);
        due("what 0", x.about(0), 6);
        due("what 1", x.about(1), 3);
    }

    private static void points() {
        sentence("points: -2 when there is no share or no such symbol");
        for (int symbol : new int[] {-1, 0, 1, 255, 256, LEAST, MOST}) {
            refused("no share, symbol " + symbol, PromiseBoundaryTest::nothing, x -> x.points(symbol), -2);
        }
        for (int symbol : new int[] {-1, 256, LEAST, MOST}) {
            refused("symbol " + symbol, PromiseBoundaryTest::rich, x -> x.points(symbol), -2);
        }
        Coder x = new Coder();
        due("0 and 255", x.count(0, 31) && x.count(255, 65535) && x.just(5), true);
        due("symbol 0", x.points(0), 31);
        due("symbol 1", x.points(1), 0);
        due("symbol 254", x.points(254), 0);
        due("symbol 255", x.points(255), -1);
    }

    private static void cell() {
        sentence("cell: -1 when there is no share, no such cell, or what is none of these");
        for (int what = 0; what <= 2; what++) {
            int w = what;
            refused("no share", PromiseBoundaryTest::nothing, x -> x.cell(0, w), -1);
        }
        for (int order = 5; order <= 12; order++) {
            int whole = 1 << order;
            Coder x = Coder.withPoints(order, whole - 1, -1);
            due("the lowest cell", x.cell(0, 0), 0);
            due("the highest cell", x.cell(whole - 1, 0), 1);
            due("the highest cell's bits", x.cell(whole - 1, 1), order);
            due("the highest cell's BASE", x.cell(whole - 1, 2), 0);
            for (int k : new int[] {-1, whole, LEAST, MOST}) {
                for (int what = 0; what <= 2; what++) {
                    due("cell " + k, x.cell(k, what), -1);
                }
            }
        }
        for (int what : new int[] {-1, 3, LEAST, MOST}) {
            refused("what " + what, PromiseBoundaryTest::rich, x -> x.cell(0, what), -1);
        }
        // Cells of a share of before are no cells of a smaller one.
        Coder y = Coder.withPoints(12, 4096);
        due("a smaller share", y.cell(4095, 0) == 0 && y.count(0, 32) && y.just(5), true);
        due("its highest cell", y.cell(31, 0), 0);
        due("above it", y.cell(32, 0), -1);
        due("far above it", y.cell(4095, 0), -1);
    }

    private static void encodeWithoutShare() {
        sentence("encode: -1, refused: there is no share");
        refused("new", PromiseBoundaryTest::nothing, Coder::encode, -1);
        refused("bytes are there", x -> {
            x.write(0x0102, 2);
            x.countAll();
        }, Coder::encode, -1);
        Coder x = Coder.onlySymbol(2);
        due("with one", x.write(2, 1) && x.encode() == 1, true);
    }

    private static void encodeNoByte() {
        sentence("encode: -2, refused: no byte is there");
        refused("IN empty", x -> {
            x.setOnly(2, 5);
            x.describe();
        }, Coder::encode, -2);
        refused("PLACE at the length of IN", x -> {
            rich(x);
            x.place(8);
        }, Coder::encode, -2);
        refused("PLACE at the end of a full IN", x -> {
            x.fill(9, 6000);
            x.place(6000);
        }, Coder::encode, -2);
        Coder x = Coder.fullOf(9, 6000);
        due("one byte is there", x.place(5999) && x.encode() == 1, true);
        due("one byte's row", x.outBytes(), new int[] {32});
    }

    private static void encodeNoWeight() {
        sentence("encode: -3, refused: one has weight 0");
        // 9 has weight 0 at each place of a row; 0 has all points but those of 1.
        for (int i = 0; i < 3; i++) {
            int place = i;
            refused("symbol " + i, x -> {
                x.setPoints(5, 31, -1);
                x.write(0, 1);
                x.encode();
                x.clear();
                for (int k = 0; k < 3; k++) {
                    x.write(k == place ? 9 : k % 2, 1);
                }
            }, Coder::encode, -3);
        }
        Coder x = Coder.withPoints(5, 31, -1);
        x.write(0x090001, 3);
        due("before PLACE", x.place(1) && x.encode() > 0, true);
        due("at PLACE", x.place(0) && x.encode() == -3, true);
        due("weight 1 of -1", x.place(2) && x.encode() == 1, true);
        // Both 255 and 0 may lack weight, and a count is none.
        Coder y = Coder.onlySymbol(1);
        due("255", y.count(255, 5) && y.write(255, 1) && y.encode() == -3, true);
        due("0", y.write(0, 1) && y.place(1) && y.encode() == -3, true);
        due("1", y.write(1, 1) && y.place(2) && y.encode() == 1, true);
    }

    private static void encodeLimit() {
        sentence("encode: -4, refused: there would be more than 6000");
        // Of order 12, 9 has 1 point and takes 12 bits, 5 has 2048 points and takes 1 bit. 3998 times 9, n times 5:
        // 3998 * 12 + (n - 1) + 12 + 1 bits, which are 48000 for n = 12.
        Coder x = new Coder();
        mixed(x, 11);
        due("47999 bits", x.encode(), 6000);
        due("47999 bits, END", x.byteAt(5999) >> 6, 1);
        Coder y = new Coder();
        mixed(y, 12);
        due("48000 bits", y.encode(), 6000);
        due("48000 bits, END", y.byteAt(5999) >> 7, 1);
        y.turn();
        due("48000 bits, back", y.decode(4010), 4010);
        due("its first", y.byteAt(0), 9);
        due("the last 9", y.byteAt(3997), 9);
        due("the first 5", y.byteAt(3998), 5);
        due("its last", y.byteAt(4009), 5);
        refused("48001 bits", z -> mixed(z, 13), Coder::encode, -4);
        refused("48001 bits, another OUT", z -> {
            mixed(z, 13);
            z.describe();
        }, Coder::encode, -4);
        Coder z = new Coder();
        mixed(z, 13);
        due("too many", z.encode(), -4);
        due("from PLACE on they are less", z.place(1) && z.encode() == 5999, true);
        due("one of weight 0 comes first", z.write(3, 1) && z.place(0) && z.encode() == -3, true);
        // 6000 symbols of 8 bits are 48001 bits with the 1.
        refused("6000 of 8 bits", eights -> {
            eights.fill(9, 6000);
            eights.count(9, 65535);
            eights.count(5, 255);
            eights.just(8);
        }, Coder::encode, -4);
        // As many as there may be, 12 bits each.
        refused("6000 of 12 bits", twelves -> {
            twelves.fill(9, 6000);
            twelves.count(9, 65535);
            twelves.count(5, 4095);
            twelves.just(12);
        }, Coder::encode, -4);
    }

    private static void mixed(Coder x, int n) {
        x.fill(9, 3998);
        for (int left = n; left > 0; left -= 8) {
            x.write(0x0505050505050505L, Math.min(8, left));
        }
        x.count(9, 1);
        x.count(5, 2048);
        x.count(6, 2047);
        due("just", x.just(12), true);
    }

    private static void decodeHowMany() {
        sentence("decode: -1, refused: there is no share, or n is not 1 .. 6000");
        refused("no share, no byte", PromiseBoundaryTest::nothing, x -> x.decode(1), -1);
        refused("no share", x -> x.write(32, 1), x -> x.decode(1), -1);
        refused("no share, last byte 0", x -> x.write(0, 1), x -> x.decode(1), -1);
        Coder x = Coder.onlySymbol(200);
        x.write(32, 1);
        for (int n : new int[] {1, 2, 5999, 6000}) {
            due("n " + n, x.decode(n), n);
            due("n " + n + ", size", x.size(), n);
            due("n " + n + ", first", x.byteAt(0), 200);
            due("n " + n + ", last", x.byteAt(n - 1), 200);
            due("n " + n + ", behind", x.byteAt(n), -1);
        }
        for (int n : new int[] {0, -1, 6001, LEAST, MOST}) {
            refused("n " + n, y -> {
                y.setOnly(200, 5);
                y.write(32, 1);
                y.decode(3);
            }, y -> y.decode(n), -1);
            refused("no byte, n " + n, y -> {
                rich(y);
                y.place(8);
            }, y -> y.decode(n), -1);
        }
    }

    private static void decodeNoByte() {
        sentence("decode: -2, refused: no byte is there, or the last one is 0");
        refused("IN empty", x -> {
            x.setOnly(2, 5);
            x.describe();
        }, x -> x.decode(1), -2);
        refused("PLACE at the length of IN", x -> {
            rich(x);
            x.place(8);
        }, x -> x.decode(1), -2);
        for (int row = 0; row < 4; row++) {
            int[] before = {255, 255, 255};
            int length = row;
            refused("last byte 0 behind " + row, x -> {
                x.setOnly(2, 5);
                x.describe();
                x.appendBytes(Arrays.copyOf(before, length));
                x.write(0, 1);
            }, x -> x.decode(1), -2);
        }
        Coder x = Coder.withPoints(5, 16, 16);
        x.write(0x0001, 2);
        due("last byte 1, one before it is 0", x.decode(4), 4);
        due("last byte 1, alone", x.place(1) && x.decode(1) == -3, true);
        due("last byte 255", x.write(255, 1) && x.place(2) && x.decode(3) == 3, true);
        due("last byte 0", x.write(0, 1) && x.place(2) && x.decode(3) == -2, true);
    }

    private static void decodeBitsLack() {
        sentence("decode: -3, refused: bits lack");
        // The state takes 5 bits, each further symbol 1 bit.
        for (int i = 5; i <= 20; i++) {
            int bits = i;
            Coder x = new Coder();
            halves(x, bits);
            due(bits + " bits", x.decode(bits - 4), bits - 4);
            refused(bits + " bits, one lacks", y -> halves(y, bits), y -> y.decode(bits - 3), -3);
        }
        refused("no bit", x -> halves(x, 0), x -> x.decode(1), -3);
        refused("4 bits", x -> halves(x, 4), x -> x.decode(1), -3);
        refused("nearly 6000 lack", x -> halves(x, 5), x -> x.decode(6000), -3);
        // Bits of bytes before PLACE are none.
        Coder x = Coder.withPoints(5, 16, 16);
        x.write(0xFF20, 2);
        due("all bytes", x.decode(9), 9);
        due("from PLACE on", x.place(1) && x.decode(1) == 1, true);
        due("a bit before PLACE", x.decode(2), -3);
        for (int order = 5; order <= 12; order++) {
            Coder one = Coder.withPoints(order, 1 << order);
            one.appendBits("0".repeat(order - 1) + "1");
            due("order " + order + ", a bit of the state lacks", one.decode(1), -3);
            one.clear();
            one.appendBits("0".repeat(order) + "1");
            due("order " + order + ", no bit lacks", one.decode(1), 1);
            due("order " + order + ", none is needed", one.decode(6000), 6000);
        }
    }

    /** So many bits below the END, a share of 16 points each, and OUT of two bytes. */
    private static void halves(Coder x, int bits) {
        x.setPoints(5, 16, 16);
        x.describe();
        x.appendBits("1".repeat(bits) + "1");
    }

    private static void decodeBitsLeft() {
        sentence("decode: -4, refused: some bit below the END is not read");
        for (int i = 6; i <= 20; i++) {
            int bits = i;
            refused(bits + " bits, one is left", x -> halves(x, bits), x -> x.decode(bits - 5), -4);
            refused(bits + " bits, all but the state's are left", x -> halves(x, bits), x -> x.decode(1), -4);
        }
        // A bit that is 0 is a bit, too.
        for (int order = 5; order <= 12; order++) {
            Coder one = Coder.withPoints(order, 1 << order);
            one.appendBits("0".repeat(order + 1) + "1");
            due("order " + order + ", one is left", one.decode(1), -4);
            due("order " + order + ", none will read it", one.decode(6000), -4);
        }
        Coder x = Coder.onlySymbol(7);
        x.write(0x0020, 2);
        due("a byte is left", x.decode(1), -4);
        due("from PLACE on none is", x.place(1) && x.decode(1) == 1, true);
        due("bits above the END are none", x.write(32, 1) && x.place(2) && x.decode(1) == 1, true);
    }

    private static void size() {
        sentence("size: How many bytes OUT has.");
        Coder x = new Coder();
        due("at first", x.size(), 0);
        x.write(-1L, 8);
        due("IN is not OUT", x.size(), 0);
        x.clear();
        x.setOnly(7, 5);
        x.write(32, 1);
        for (int n : new int[] {1, 6000, 2}) {
            due("n " + n, x.decode(n), n);
            due("size " + n, x.size(), n);
        }
        x.turn();
        due("turn leaves OUT", x.size(), 2);
        x.clear();
        due("clear leaves OUT", x.size(), 2);
    }

    private static void byteAt() {
        sentence("byteAt: Byte k of OUT, from 0, 0 .. 255; -1 when there is none.");
        Coder x = new Coder();
        for (int k : new int[] {-1, 0, 1, LEAST, MOST}) {
            due("OUT empty, " + k, x.byteAt(k), -1);
        }
        for (int symbol : new int[] {0, 127, 128, 255}) {
            Coder y = Coder.onlySymbol(symbol);
            due("two bytes", y.write(32, 1) && y.decode(2) == 2, true);
            due("first", y.byteAt(0), symbol);
            due("last", y.byteAt(1), symbol);
            for (int k : new int[] {-1, 2, 5999, 6000, LEAST, MOST}) {
                due("no byte " + k, y.byteAt(k), -1);
            }
            due("6000 bytes", y.decode(6000), 6000);
            due("byte 5999", y.byteAt(5999), symbol);
            due("no byte 6000", y.byteAt(6000), -1);
            due("one byte", y.decode(1), 1);
            due("none of the longer row", y.byteAt(1), -1);
        }
    }
}

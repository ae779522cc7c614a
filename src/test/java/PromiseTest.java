/** Each promise by hand: ordinary inputs, the edges that the document names, and wrong inputs. */
public final class PromiseTest extends Checks {
    private static final int[] FAR = {Integer.MIN_VALUE, -1000000, -1, 256, 257, 4096, 6001, Integer.MAX_VALUE};

    public static void main(String[] args) {
        newObject();
        write();
        writeUpToTheLimit();
        turn();
        clear();
        placeAndAt();
        count();
        countAll();
        shareByRule();
        shareRefused();
        just();
        describe();
        readAndItsPlace();
        readRefused();
        readFirstOfSeveral();
        readIgnoresWhatIsBehind();
        about();
        points();
        cells();
        encode();
        encodeRefused();
        encodeLimit();
        decode();
        decodeRefused();
        sizeAndByteAt();
        end();
    }

    private static void newObject() {
        Coder x = new Coder();
        due("1 size", x.size(), 0);
        due("1 at", x.at(), 0);
        due("1 byteAt", x.byteAt(0), -1);
        due("1 about order", x.about(0), -1);
        due("1 about LAST", x.about(1), -1);
        due("1 points", x.points(0), -2);
        due("1 cell", x.cell(0, 0), -1);
        due("1 describe", x.describe(), -1);
        due("1 encode", x.encode(), -1);
        due("1 decode", x.decode(1), -1);
        due("1 read", x.read(12, 255), -3);
        due("1 place 1", x.place(1), false);
        for (int order = 5; order <= 12; order++) {
            due("1 share, no counts", x.share(order), false);
            due("1 just, no counts", x.just(order), false);
        }
        due("1 countAll", x.countAll(), 0);
        due("1 IN", x.inBytes(), bytes());
    }

    private static void write() {
        Coder x = new Coder();
        due("2 eight", x.write(0x0102030405060708L, 8), true);
        due("2 two lowest", x.write(0xAABBCCL, 2), true);
        due("2 high bit", x.write(-2L, 1), true);
        due("2 negative, eight", x.write(0xFF00000000000080L, 8), true);
        for (int n : new int[] {0, 9, 16, 64, -1, Integer.MIN_VALUE, Integer.MAX_VALUE}) {
            due("2 n " + n, x.write(0x1122334455667788L, n), false);
        }
        due("2 IN", x.inBytes(), bytes(1, 2, 3, 4, 5, 6, 7, 8, 0xBB, 0xCC, 0xFE, 0xFF, 0, 0, 0, 0, 0, 0, 0x80));
        for (int n = 1; n <= 8; n++) {
            Coder y = new Coder();
            due("2 each n", y.write(0x8182838485868788L, n), true);
            due("2 length", y.place(n), true);
            due("2 not longer", y.place(n + 1), false);
            due("2 PLACE stays", y.place(0) && y.write(0, 1) && y.at() == 0, true);
        }
    }

    private static void writeUpToTheLimit() {
        Coder x = Coder.fullOf(9, 5999);
        due("2 5999 and 2", x.write(0x0101L, 2), false);
        due("2 nothing appended", x.place(6000), false);
        due("2 5999 and 1", x.write(1L, 1), true);
        due("2 6000", x.place(6000), true);
        due("2 6000 and 1", x.write(1L, 1), false);
        Coder y = Coder.fullOf(9, 5992);
        due("2 5992 and 8", y.write(1L, 8), true);
        due("2 6000 and 8", y.write(1L, 8), false);
        Coder z = Coder.fullOf(9, 5993);
        due("2 5993 and 8", z.write(1L, 8), false);
        due("2 5993 and 7", z.write(1L, 7), true);
    }

    private static void turn() {
        Coder x = Coder.onlySymbol(7);
        x.write(0x070707, 3);
        due("3 encode", x.encode(), 1);
        x.place(2);
        x.turn();
        due("3 PLACE", x.at(), 0);
        due("3 OUT stays", x.outBytes(), bytes(32));
        due("3 length", x.place(1), true);
        due("3 not longer", x.place(2), false);
        due("3 count stays", x.just(5), true);
        due("3 IN and OUT are two rows", x.write(5, 1) && x.size() == 1, true);
        x.place(0);
        due("3 IN", x.inBytes(), bytes(32, 5));
        Coder y = new Coder();
        y.write(5, 8);
        y.place(8);
        y.turn();
        due("3 empty OUT", y.place(1), false);
        due("3 empty OUT, PLACE", y.at(), 0);
    }

    private static void clear() {
        Coder x = Coder.onlySymbol(7);
        x.write(0x0707, 2);
        x.encode();
        x.place(1);
        x.clear();
        due("4 PLACE", x.at(), 0);
        due("4 IN", x.place(1), false);
        due("4 counts", x.share(5), false);
        due("4 share stays", x.points(7), 32);
        due("4 OUT stays", x.outBytes(), bytes(32));
        due("4 write anew", x.write(3, 1), true);
        due("4 IN anew", x.inBytes(), bytes(3));
        Coder y = new Coder();
        for (int s = 0; s < 256; s++) {
            y.count(s, 1);
        }
        y.clear();
        due("4 every count", y.just(8), false);
        due("4 one count then", y.count(9, 1) && y.share(5), true);
        due("4 alone", y.points(9), 32);
    }

    private static void placeAndAt() {
        Coder x = new Coder();
        x.write(1, 5);
        for (int p = 0; p <= 5; p++) {
            due("5 place", x.place(p), true);
            due("6 at", x.at(), p);
        }
        x.place(3);
        due("5 behind the end", x.place(6), false);
        for (int p : FAR) {
            due("5 far", x.place(p), false);
        }
        due("6 stays", x.at(), 3);
    }

    private static void count() {
        Coder x = new Coder();
        due("7 lowest", x.count(0, 1), true);
        due("7 highest", x.count(255, 65535), true);
        due("7 zero", x.count(3, 0), true);
        due("7 above", x.count(0, 65536), false);
        due("7 below", x.count(0, -1), false);
        for (int far : FAR) {
            due("7 no symbol", x.count(far, 1), false);
        }
        due("7 c far", x.count(0, Integer.MAX_VALUE) || x.count(0, Integer.MIN_VALUE), false);
        due("7 share", x.share(12), true);
        due("7 refused ones changed nothing", x.points(0), -1);
        due("7 the other", x.points(255), 4095);
        due("7 the share stays", x.count(255, 0) && x.points(255) == 4095, true);
        due("7 becomes, not adds", x.count(0, 31) && x.count(4, 5) && x.count(4, 1) && x.just(5), true);
    }

    private static void countAll() {
        Coder x = new Coder();
        x.count(77, 1000);
        x.write(0xFF00FF80FFL, 5);
        x.place(1);
        due("8 how many", x.countAll(), 4);
        due("8 share", x.share(5), true);
        due("8 half", x.points(255), 16);
        due("8 quarter", x.points(0), 8);
        due("8 high symbol", x.points(128), 8);
        due("8 others are 0", x.points(77), 0);
        due("8 PLACE stays", x.at(), 1);
        x.place(5);
        due("8 at the end", x.countAll(), 0);
        due("8 all 0", x.share(5), false);
        due("8 6000", Coder.fullOf(200, 6000).countAll(), 6000);
    }

    private static void shareByRule() {
        // 10 + 10 + 10 = 30: 32 / 3 is 10 each, 2 lack, all cut alike: the lower symbols get them.
        due("9 same cut", shared(5, 1, 1, 1), bytes(11, 11, 10));
        // 5 of 7: 22 and 6/7; 2 of 7: 9 and 1/7.
        due("9 greatest cut", shared(5, 2, 5), bytes(9, 23));
        // 1/6 of 32 is 5 and 2/6; 2/6 is 10 and 4/6; 3/6 is 16.
        due("9 nothing cut gets none", shared(5, 3, 1, 2), bytes(16, 5, 11));
        // 32 c / 33: a 1 is -1, weight 1; 32 is 31 and something.
        due("9 below one point", shared(5, 1, 32), bytes(-1, 31));
        // 32 c / 32: exactly one point is 1, not -1.
        due("9 just one point", shared(5, 1, 31), bytes(1, 31));
        // 31 and 1 of 10000 each: 32 * 10000 / 10031 is 31; 32 * 31 is below 10031.
        due("9 nothing lacks", shared(5, 31, 10000), bytes(-1, 31));
        // Three of -1 and 32 * 1000 / 2003 = 15 twice: 33, one too much, from the lowest of the most.
        due("9 too much, same points", shared(5, 1, 1000, 1, 1000, 1), bytes(-1, 14, -1, 15, -1));
        // T = 41: a 1 is -1, what was cut from it does not count; 20 is 15 and 25/41 twice, 1 lacks.
        due("9 -1 gets none", shared(5, 1, 20, 20), bytes(-1, 16, 15));
        due("9 alone", shared(12, 0, 0, 65535), bytes(0, 0, 4096));
        due("9 alone, count 1", shared(5, 1), bytes(32));
        takenAgainAndAgain();
        manySymbols();
    }

    private static void takenAgainAndAgain() {
        Coder x = new Coder();
        // 20 symbols of 1 and two of 1000: T = 2020, 15 points each, 20 + 30 = 50, 18 too much.
        for (int s = 0; s < 20; s++) {
            x.count(10 + s, 1);
        }
        x.count(5, 1000);
        x.count(200, 1000);
        due("9 much too much", x.share(5), true);
        due("9 half of it", x.points(5), 6);
        due("9 the other half", x.points(200), 6);
        due("9 ones stay", x.points(29), -1);
        // One more to take: 19 too much, the lower one loses it.
        x.count(30, 1);
        due("9 odd", x.share(5), true);
        due("9 the lower loses first", x.points(5), 5);
        due("9 the higher not", x.points(200), 6);
    }

    private static void manySymbols() {
        Coder x = new Coder();
        for (int s = 0; s < 256; s++) {
            x.count(s, 65535);
        }
        due("9 256 of order 8", x.share(8), true);
        due("9 one each", x.points(0) == 1 && x.points(255) == 1, true);
        due("9 greatest counts, order 12", x.share(12), true);
        due("9 16 each", x.points(0) == 16 && x.points(255) == 16, true);
        due("9 256 of order 7", x.share(7), false);
        due("9 refused: stays", x.about(0), 12);
        Coder y = new Coder();
        for (int s = 0; s < 31; s++) {
            y.count(s, 1);
        }
        y.count(31, 65535);
        due("9 32 of order 5", y.share(5), true);
        due("9 down to one", y.points(31), 1);
        due("9 all others", y.points(0) == -1 && y.points(30) == -1, true);
        y.count(32, 1);
        due("9 33 of order 5", y.share(5), false);
        due("9 33 of order 6", y.share(6), true);
    }

    private static void shareRefused() {
        Coder x = new Coder();
        x.count(1, 1);
        due("9 order 6", x.share(6), true);
        for (int order : new int[] {4, 13, 0, -1, 32, 37, Integer.MIN_VALUE, Integer.MAX_VALUE}) {
            due("9 order " + order, x.share(order), false);
        }
        x.count(1, 0);
        due("9 all 0", x.share(5), false);
        due("9 stays", x.about(0), 6);
        due("9 stays, points", x.points(1), 64);
    }

    private static void just() {
        Coder x = new Coder();
        x.count(0, 65535);
        x.count(9, 14);
        x.count(255, 17);
        due("10 just", x.just(5), true);
        due("10 -1", x.points(0), -1);
        due("10 14", x.points(9), 14);
        due("10 17", x.points(255), 17);
        due("10 0", x.points(1), 0);
        x.count(255, 16);
        due("10 too few", x.just(5), false);
        x.count(255, 18);
        due("10 too many", x.just(5), false);
        due("10 of another order", x.just(6), false);
        due("10 stays", x.points(255), 17);
        for (int order : new int[] {4, 13, 0, -1, 36, Integer.MIN_VALUE, Integer.MAX_VALUE}) {
            due("10 order " + order, x.just(order), false);
        }
        x.clear();
        due("10 16 is no order", x.count(1, 16) && x.just(4), false);
        due("10 8192 is no order", x.count(1, 8192) && x.just(13), false);
        due("10 65534 is points", x.count(1, 65534) && x.just(12), false);
        due("10 order 12", x.count(1, 4096) && x.just(12), true);
        due("10 order 12, points", x.points(1), 4096);
        due("10 share is another thing", x.count(1, 65535) && x.just(5), false);
    }

    private static void describe() {
        // Order 5: 0000. Lack 32: t 32, m 30; v 30 is long and itself: 6 bits 011110 from its lowest on.
        // Lack 3: t 4, m 3; v 4 is long, 4 + 3 = 7 in 3 bits.
        due("11 long and itself", described(5, 29, 3), Bits.bytes("0000" + "011110" + "111"));
        // v 29 is short: 5 bits. Lack 4: t 4, m 2; v 1 is short in 2 bits; 0 zeros; v 5: long, 5 + 2 = 7.
        due("11 short, a zero", described(5, 28, 0, 4), Bits.bytes("0000" + "10111" + "10" + "00" + "111"));
        // v 32 is long and shifted: 32 + 30 = 62. Lack 1: t 2, m 1; v 2 is long: 2 + 1 = 3 in 2 bits.
        due("11 shifted", described(5, 31, 1), Bits.bytes("0000" + "011111" + "11"));
        // Lack 1 with -1 points: v 0 is short, 1 bit.
        due("11 -1 at last", described(5, 31, -1), Bits.bytes("0000" + "011111" + "0"));
        // Zeros at the begin: symbol 0, then 1, 2 or 3 more.
        due("11 one zero", described(5, 0, 32), Bits.bytes("0000" + "10000" + "00" + "111111"));
        due("11 two zeros", described(5, 0, 0, 32), Bits.bytes("0000" + "10000" + "10" + "111111"));
        due("11 three zeros", described(5, 0, 0, 0, 32), Bits.bytes("0000" + "10000" + "01" + "111111"));
        due("11 four zeros", described(5, 0, 0, 0, 0, 32), Bits.bytes("0000" + "10000" + "11" + "00" + "111111"));
        due("11 five zeros", described(5, 0, 0, 0, 0, 0, 32), Bits.bytes("0000" + "10000" + "11" + "10" + "111111"));
        // Order 12: 7 in 4 bits. Lack 4096: t 4096, m 4094; v 4097 + 4094 = 8191 in 13 bits.
        due("11 order 12", described(12, 4096), Bits.bytes("1110" + "1111111111111"));
        Coder x = Coder.onlySymbol(255);
        StringBuilder zeros = new StringBuilder("0000" + "10000");
        for (int i = 0; i < 84; i++) {
            zeros.append("11");
        }
        due("11 symbol 255", x.describe(), Bits.bytes(zeros + "01" + "111111").length);
        due("11 symbol 255, bytes", x.outBytes(), Bits.bytes(zeros + "01" + "111111"));
        due("11 again", x.describe() == x.size() && x.points(255) == 32, true);
    }

    private static void readAndItsPlace() {
        int[][] shares = {{32}, {0, 0, 0, 0, 0, 32}, {31, -1}, {-1, 0, 0, 0, -1, 30}, {28, 0, 4}, {1, 1, 1, 29}};
        for (int[] points : shares) {
            int[] written = described(5, points);
            int length = written.length;
            Coder y = new Coder();
            y.write(0xEEEE, 2);
            y.appendBytes(written);
            y.write(0xFF, 1);
            y.place(2);
            due("12 order", y.read(5, points.length - 1), 5);
            due("12 PLACE", y.at(), 2 + length);
            for (int s = 0; s < points.length; s++) {
                due("12 points", y.points(s), points[s]);
            }
            due("12 LAST", y.about(1), points.length - 1);
            due("12 others", y.points(points.length), 0);
        }
        Coder z = Coder.withBits("1110" + "1111111111111");
        due("12 order 12", z.read(12, 0), 12);
        due("12 4096", z.points(0), 4096);
        due("12 cells of it", z.cell(4095, 2), 4095);
        due("12 its PLACE", z.at(), 3);
    }

    private static void readRefused() {
        Coder x = Coder.withBits("0000" + "111111");
        due("12 first", x.read(5, 255), 5);
        x.place(0);
        for (int most : new int[] {4, 13, -1, Integer.MIN_VALUE, Integer.MAX_VALUE}) {
            due("12 most " + most, x.read(most, 255), -4);
        }
        for (int last : FAR) {
            due("12 last " + last, x.read(12, last), -4);
        }
        due("12 PLACE stays", x.at(), 0);
        for (int order = 6; order <= 20; order++) {
            Coder y = Coder.withBits(Bits.lowestFirst(order - 5, 4) + "0000");
            for (int most = 5; most <= 12 && most < order; most++) {
                due("12 order above most", y.read(most, 0), -1);
            }
            if (order <= 12) {
                due("12 order as most", y.read(order, 0), -3);
            }
        }
        // Symbol 0 has 0 points, the next two as well, then symbol 3 all.
        String three = "0000" + "10000" + "01" + "111111";
        due("12 last as due", Coder.withBits(three).read(5, 3), 5);
        for (int last = 0; last < 3; last++) {
            Coder y = Coder.onlySymbol(6);
            y.appendBits(three);
            due("12 above last", y.read(5, last), -2);
            due("12 stays", y.points(6) == 32 && y.points(3) == 0 && y.at() == 0, true);
        }
        Coder e = Coder.onlySymbol(6);
        e.write(0, 1);
        e.place(1);
        due("12 at the end", e.read(5, 255), -3);
        e.place(0);
        due("12 a cut number", e.read(5, 255), -3);
        due("12 stays when cut", e.points(6) == 32 && e.at() == 0, true);
        // Order 12, 0 points, and then zeros without end.
        Coder zeros = Coder.withBits("1110" + "100000000000");
        for (int i = 0; i < 30; i++) {
            zeros.write(-1L, 8);
        }
        due("12 zeros beyond 255", zeros.read(12, 255), -2);
        due("12 zeros up to 255", zeros.read(12, 254), -2);
    }

    private static void readFirstOfSeveral() {
        // Order above most comes before all else.
        due("12 -1 before -3", Coder.withBits("1000").read(5, 0), -1);
        // 31 points, then 1 lacks: last is 0, so -2 although IN goes on or ends.
        due("12 -2, something lacks", Coder.withBits("0000" + "011111" + "111111").read(5, 0), -2);
        // Order 5, symbol 0 has 0 points, then zeros: 3, 3, 3 and a bit that is no number of 2.
        Coder x = Coder.withBits("0000" + "10000" + "11" + "11" + "11" + "0");
        due("12 zeros cut by the end", x.read(5, 255), -3);
        due("12 zeros above last", x.read(5, 5), -2);
        due("12 last told by zeros, IN goes on", x.read(5, 6), -2);
        due("12 last told by zeros, IN ends", x.read(5, 9), -2);
        due("12 IN ends before last", x.read(5, 10), -3);
        // 22 points; lack 10: -1 points; lack 9: 0 points; and one bit where 2 are due.
        Coder y = Coder.withBits("0000" + "11101" + "000" + "100" + "0");
        due("12 IN's end before the zeros", y.read(5, 3), -3);
        due("12 last has 0 points before IN's end", y.read(5, 2), -2);
        due("12 last has -1 points, something lacks", y.read(5, 1), -2);
        due("12 last has points, something lacks", y.read(5, 0), -2);
        // 12 bits are left: 4095 is no short number of order 12, 4093 is one.
        due("12 a long number cut", Coder.withBits("1110" + "111111111111").read(12, 255), -3);
        due("12 a long number cut, last 0", Coder.withBits("1110" + "111111111111").read(12, 0), -3);
        due("12 a short number not cut", Coder.withBits("1110" + "101111111111").read(12, 0), -2);
        due("12 the next one cut", Coder.withBits("1110" + "101111111111").read(12, 1), -3);
    }

    private static void readIgnoresWhatIsBehind() {
        // Filling bits that are not 0 are no fault that the promise names.
        Coder x = Coder.withBits("0000" + "111111" + "111111");
        due("12 filled otherwise", x.read(5, 255), 5);
        due("12 PLACE behind it", x.at(), 2);
        // A 0 said by a number behind said zeros is read as it stands.
        Coder y = Coder.withBits("0000" + "10000" + "00" + "10000" + "00" + "111111");
        due("12 zeros in two parts", y.read(5, 2), 5);
        due("12 and then", y.points(2), 32);
    }

    private static void about() {
        Coder x = Coder.withPoints(7, 0, 100, 0, -1, 27);
        due("13 order", x.about(0), 7);
        due("13 LAST", x.about(1), 4);
        for (int what : new int[] {2, -1, 3, Integer.MIN_VALUE, Integer.MAX_VALUE}) {
            due("13 what", x.about(what), -1);
        }
        due("13 LAST has -1", Coder.withPoints(5, 31, -1).about(1), 1);
        due("13 LAST 0", Coder.onlySymbol(0).about(1), 0);
        due("13 LAST 255", Coder.onlySymbol(255).about(1), 255);
    }

    private static void points() {
        Coder x = Coder.withPoints(5, -1, 0, 31);
        due("14 -1", x.points(0), -1);
        due("14 0", x.points(1), 0);
        due("14 31", x.points(2), 31);
        due("14 highest", x.points(255), 0);
        for (int symbol : FAR) {
            due("14 no symbol", x.points(symbol), -2);
        }
    }

    private static void cells() {
        // Order 5, step 23: 0 23 14 5 28 19 10 1 24 15 6 29 20 11 2 25 16 7 30 21 12 3 26 17 8 31 22 13 4 27 18 9.
        // Symbols 1 and 3 have 31 and 30, which are left out: symbol 0 has 3, symbol 2 has 27.
        Coder x = Coder.withPoints(5, 3, -1, 27, -1);
        int[] zeroes = {0, 14, 23};
        for (int k = 0; k < 30; k++) {
            due("15 symbol of " + k, x.cell(k, 0), k == 0 || k == 14 || k == 23 ? 0 : 2);
        }
        due("15 first -1", x.cell(31, 0), 1);
        due("15 second -1", x.cell(30, 0), 3);
        // Numbers 3, 4, 5 of weight 3: 3 takes 4 bits, base 48 - 32; 4 and 5 take 3, base 0 and 8.
        int[] widths = {4, 3, 3};
        int[] bases = {16, 0, 8};
        for (int i = 0; i < 3; i++) {
            due("15 bits", x.cell(zeroes[i], 1), widths[i]);
            due("15 base", x.cell(zeroes[i], 2), bases[i]);
        }
        due("15 bits of -1", x.cell(30, 1), 5);
        due("15 base of -1", x.cell(30, 2), 0);
        leftOutCells();
        for (int k : new int[] {-1, 32, 33, 4095, 4096, Integer.MIN_VALUE, Integer.MAX_VALUE}) {
            due("15 no cell", x.cell(k, 0), -1);
        }
        for (int what : new int[] {-1, 3, Integer.MIN_VALUE, Integer.MAX_VALUE}) {
            due("15 what", x.cell(0, what), -1);
        }
        Coder y = Coder.withPoints(12, 4096);
        due("15 highest cell", y.cell(4095, 0), 0);
        due("15 above it", y.cell(4096, 0), -1);
        due("15 a smaller share", y.count(0, 32) && y.just(5), true);
        due("15 above the smaller", y.cell(32, 0), -1);
        due("15 within the smaller", y.cell(31, 2), 31);
    }

    private static void leftOutCells() {
        // 10 symbols of -1 have 31 .. 22; so 23, 28, 24, .. are left out: 0 14 5 19 10 1 15 ..
        Coder x = Coder.withPoints(5, -1, -1, -1, -1, -1, -1, -1, -1, -1, -1, 4, 18);
        for (int s = 0; s < 10; s++) {
            due("15 -1 in rising order", x.cell(31 - s, 0), s);
        }
        for (int k = 0; k < 22; k++) {
            due("15 left out", x.cell(k, 0), k == 0 || k == 14 || k == 5 || k == 19 ? 10 : 11);
        }
        Coder y = new Coder();
        for (int s = 0; s < 32; s++) {
            y.count(2 * s, 65535);
        }
        due("15 all -1", y.just(5), true);
        for (int k = 0; k < 32; k++) {
            due("15 all -1, symbol", y.cell(k, 0), 2 * (31 - k));
            due("15 all -1, bits", y.cell(k, 1), 5);
        }
    }

    private static void encode() {
        int[] mixed = {3, -1, 27, -1};
        // Symbol 0 has cells 0 (16 .. 31), 14 (0 .. 7) and 23 (8 .. 15); symbol 1 has cell 31, symbol 3 has cell 30.
        due("16 alone", encoded(mixed, 0), Bits.bytes("00000" + "1"));
        due("16 alone, -1", encoded(mixed, 1), Bits.bytes("11111" + "1"));
        due("16 alone, lowest cell", encoded(mixed, 2), Bits.bytes("10000" + "1"));
        due("16 two", encoded(mixed, 0, 1), Bits.bytes("1111" + "00000" + "1"));
        due("16 three", encoded(mixed, 0, 0, 1), Bits.bytes("1111" + "000" + "01110" + "1"));
        due("16 four", encoded(mixed, 1, 0, 0, 1), Bits.bytes("1111" + "000" + "01110" + "11111" + "1"));
        due("16 -1 behind -1", encoded(mixed, 1, 3, 1), Bits.bytes("11111" + "01111" + "11111" + "1"));
        due("16 no bits", encoded(new int[] {32}, 0, 0, 0), Bits.bytes("00000" + "1"));
        Coder x = Coder.withPoints(5, mixed);
        x.write(0x09020001, 4);
        x.place(2);
        due("16 from PLACE on", x.encode(), 2);
        due("16 from PLACE on, bytes", x.outBytes(), Bits.bytes("1111" + "00000" + "1"));
        due("16 PLACE stays", x.at(), 2);
        due("16 IN stays", x.place(4) && !x.place(5) && x.place(0), true);
        due("16 IN's bytes stay", x.inBytes(), bytes(9, 2, 0, 1));
    }

    private static void encodeRefused() {
        Coder none = new Coder();
        none.write(1, 1);
        due("16 no share", none.encode(), -1);
        Coder x = Coder.onlySymbol(7);
        due("16 no byte", x.encode(), -2);
        x.write(0x0707, 2);
        due("16 before", x.encode(), 1);
        x.place(2);
        due("16 no byte from PLACE on", x.encode(), -2);
        x.write(0x08, 1);
        due("16 weight 0, alone", x.encode(), -3);
        x.place(0);
        due("16 weight 0, last", x.encode(), -3);
        x.write(0x07, 1);
        due("16 weight 0, within", x.encode(), -3);
        x.place(2);
        due("16 weight 0, first", x.encode(), -3);
        x.place(3);
        due("16 weight 0, before PLACE", x.encode(), 1);
        due("16 OUT", x.outBytes(), bytes(32));
        x.place(2);
        due("16 refused", x.encode(), -3);
        due("16 OUT stays", x.outBytes(), bytes(32));
        x.place(4);
        due("16 refused, no byte", x.encode(), -2);
        due("16 OUT stays still", x.outBytes(), bytes(32));
    }

    private static void encodeLimit() {
        // At order 8, a symbol of weight 1 takes 8 bits; the 1 at last takes a byte more.
        Coder x = Coder.fullOf(9, 6000);
        x.count(9, 65535);
        x.count(8, 255);
        due("16 just", x.just(8), true);
        due("16 6001 bytes", x.encode(), -4);
        due("16 OUT stays, length", x.size(), 6000);
        due("16 OUT stays, bytes", x.byteAt(0) == 9 && x.byteAt(5999) == 9, true);
        x.place(1);
        due("16 6000 bytes", x.encode(), 6000);
        due("16 first of them", x.byteAt(0), 255);
        due("16 last but one", x.byteAt(5998), 255);
        due("16 last of them", x.byteAt(5999), 1);
        x.place(0);
        due("16 6001 bytes again", x.encode(), -4);
        x.turn();
        due("16 back", x.decode(5999), 5999);
        due("16 back, last", x.byteAt(5998), 9);
        // 4000 symbols of 12 bits are 6001 bytes; a weight of 0 is told before that.
        Coder y = new Coder();
        y.write(0x0809090909090909L, 8);
        for (int i = 1; i < 500; i++) {
            y.write(0x0909090909090909L, 8);
        }
        y.count(9, 65535);
        y.count(7, 4095);
        due("16 order 12", y.just(12), true);
        due("16 -3 before -4", y.encode(), -3);
        y.place(1);
        due("16 3999 of 12 bits", y.encode(), 5999);
        y.count(8, 65535);
        y.count(7, 4094);
        due("16 all have weight", y.just(12) && y.place(0), true);
        due("16 4000 of 12 bits", y.encode(), -4);
    }

    private static void decode() {
        int[] mixed = {3, -1, 27, -1};
        due("17 alone", decoded(mixed, "00000" + "1", 1), bytes(0));
        due("17 alone, -1", decoded(mixed, "11111" + "1", 1), bytes(1));
        due("17 a cell not the lowest", decoded(mixed, "01110" + "1", 1), bytes(0));
        due("17 two", decoded(mixed, "1111" + "00000" + "1", 2), bytes(0, 1));
        due("17 four", decoded(mixed, "1111" + "000" + "01110" + "11111" + "1", 4), bytes(1, 0, 0, 1));
        due("17 bits left, nothing becomes OUT", decoded(mixed, "10111" + "01" + "1", 1), bytes());
        Coder x = Coder.withPoints(5, mixed);
        x.write(0xFFFF, 2);
        x.appendBits("1111" + "00000" + "1");
        x.place(2);
        due("17 from PLACE on", x.decode(2), 2);
        due("17 from PLACE on, row", x.outBytes(), bytes(0, 1));
        due("17 PLACE stays", x.at(), 2);
        due("17 IN stays", x.place(4) && !x.place(5), true);
        due("17 6000", Coder.fullOf(200, 6000).countAll(), 6000);
        Coder y = Coder.onlySymbol(200);
        y.write(32, 1);
        due("17 n 6000", y.decode(6000), 6000);
        due("17 n 6000, row", y.byteAt(0) == 200 && y.byteAt(5999) == 200 && y.byteAt(6000) == -1, true);
        due("17 n 1", y.decode(1), 1);
        due("17 n 1, row", y.outBytes(), bytes(200));
    }

    private static void decodeRefused() {
        Coder none = new Coder();
        due("17 no share, no byte", none.decode(1), -1);
        none.write(255, 1);
        due("17 no share", none.decode(1), -1);
        Coder x = Coder.withPoints(5, 16, 16);
        for (int n : new int[] {0, -1, 6001, Integer.MIN_VALUE, Integer.MAX_VALUE}) {
            due("17 n " + n, x.decode(n), -1);
        }
        due("17 no byte", x.decode(1), -2);
        x.write(0x2000, 2);
        due("17 last byte 0", x.decode(1), -2);
        x.place(2);
        due("17 no byte from PLACE on", x.decode(1), -2);
        x.write(0x1F, 1);
        due("17 4 bits", x.decode(1), -3);
        x.write(0x01, 1);
        x.place(3);
        due("17 0 bits", x.decode(1), -3);
        x.place(2);
        // The bits 11111000 stand below the END; each symbol takes 1 bit, the state 5.
        due("17 8 bits, 4 symbols", x.decode(4), 4);
        int[] before = x.outBytes();
        due("17 a bit not read", x.decode(3), -4);
        due("17 bits not read", x.decode(1), -4);
        due("17 a bit lacks", x.decode(5), -3);
        due("17 bits lack", x.decode(6000), -3);
        x.place(4);
        due("17 no byte at all", x.decode(4), -2);
        due("17 OUT stays", x.outBytes(), before);
        // Bits lack within a row although bits of bytes before PLACE are there.
        Coder y = Coder.withPoints(5, 16, 16);
        y.write(0xFF20, 2);
        y.place(1);
        due("17 just the state", y.decode(1), 1);
        due("17 not from before PLACE", y.decode(2), -3);
    }

    private static void sizeAndByteAt() {
        Coder x = Coder.withPoints(5, 31, 1);
        x.describe();
        due("18 size", x.size(), 2);
        due("19 first", x.byteAt(0), 0b11100000);
        due("19 second", x.byteAt(1), 0b00001111);
        for (int k : new int[] {2, 3, 5999, 6000, -1, Integer.MIN_VALUE, Integer.MAX_VALUE}) {
            due("19 none", x.byteAt(k), -1);
        }
        x.write(0, 1);
        due("18 a shorter row", x.encode() == 1 && x.size() == 1, true);
        due("19 not of the longer row", x.byteAt(1), -1);
    }

    private static int[] decoded(int[] points, String bits, int n) {
        Coder x = Coder.withPoints(5, points);
        x.appendBits(bits);
        x.decode(n);
        return x.outBytes();
    }

    private static int[] bytes(int... bytes) {
        return bytes;
    }
}

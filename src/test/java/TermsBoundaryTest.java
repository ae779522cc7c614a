import java.util.Arrays;

/** The boundary cases that the document's "What it is" and "Terms" name, a method for each sentence. */
public final class TermsBoundaryTest extends Checks {
    public static void main(String[] args) {
        calls();
        symbols();
        orders();
        pointsOfEachKind();
        weights();
        weightsTogether();
        last();
        noneAtFirst();
        bitsOfRows();
        highestCells();
        cellsBySteps();
        cellsLeftOut();
        numbers();
        bitsAndBases();
        rowOfNoneOrOne();
        rowOfWeightAboveZero();
        firstState();
        withinOneCell();
        endOfRow();
        readFromItsEnd();
        nothingBehindLast();
        orderWritten();
        asLongAsSomethingLacks();
        lowestAndHighestNumber();
        powerNotAbove();
        shortAndLongNumbers();
        zerosByThrees();
        numberBehindZeros();
        filledByte();
        countsTogether();
        countZero();
        countBelowOnePoint();
        pointsCut();
        lackingByCut();
        lackingOfSameCut();
        lackingNotToMinusOne();
        tooMuch();
        rowLimits();
        placeAtFirst();
        end();
    }

    private static void calls() {
        sentence("An object is used for at most 512 calls after it has been made");
        Coder x = new Coder();
        for (int i = 0; i < 508; i++) {
            due("each call", x.write(i, 1), true);
        }
        due("call 509", x.place(508), true);
        due("call 510", x.place(509), false);
        due("call 511", x.at(), 508);
        due("call 512", x.write(0, 8), true);
        due("calls", x.calls(), 512);
        // The same with the calls that do most.
        Coder y = Coder.fullOf(255, 6000);
        while (y.callsLeft() > 4) {
            due("countAll", y.countAll(), 6000);
            due("share", y.share(12), true);
            due("encode", y.encode(), 2);
            due("size", y.size(), 2);
        }
        due("LAST", y.about(1), 255);
        while (y.callsLeft() > 1) {
            due("countAll", y.countAll(), 6000);
        }
        due("call 512", y.byteAt(1), 16);
        due("calls", y.calls(), 512);
    }

    private static void symbols() {
        sentence("SYMBOLS are 0 .. 255.");
        for (int symbol : new int[] {0, 1, 254, 255}) {
            Coder x = new Coder();
            due("count " + symbol, x.count(symbol, 32), true);
            due("just", x.just(5), true);
            due("points " + symbol, x.points(symbol), 32);
            due("its cell", x.cell(0, 0), symbol);
            due("read up to it", x.describe() > 0 && readOut(x, symbol) == 5, true);
        }
        for (int none : new int[] {-1, 256}) {
            Coder x = Coder.onlySymbol(0);
            due("count " + none, x.count(none, 1), false);
            due("points " + none, x.points(none), -2);
            due("read up to " + none, x.read(12, none), -4);
        }
    }

    private static int readOut(Coder x, int last) {
        x.turn();
        return x.read(12, last);
    }

    private static void orders() {
        sentence("A SHARE of ORDER L (5 .. 12)");
        for (int order = 5; order <= 12; order++) {
            Coder x = new Coder();
            due("a count", x.count(3, 1 << order), true);
            due("just " + order, x.just(order), true);
            due("its order", x.about(0), order);
            due("share " + order, x.share(order), true);
            due("its order again", x.about(0), order);
            due("written and read", x.describe() > 0 && readOut(x, 3) == order, true);
        }
        for (int order : new int[] {4, 13}) {
            Coder x = new Coder();
            due("a count", x.count(3, 1 << order), true);
            due("just " + order, x.just(order), false);
            due("share " + order, x.share(order), false);
            due("none", x.about(0), -1);
        }
        due("order 13 written", Coder.withBits("0001" + "1111" + "11111111" + "11111111").read(12, 255), -1);
    }

    private static void pointsOfEachKind() {
        sentence("tells POINTS for each symbol: -1, 0 or more");
        Coder x = Coder.withPoints(5, -1, 0, 1, 2, 28);
        due("points", x.firstPoints(6), new int[] {-1, 0, 1, 2, 28, 0});
        due("most points", Coder.withPoints(12, 4096).points(0), 4096);
        due("one below", Coder.withPoints(12, 4095, -1).firstPoints(2), new int[] {4095, -1});
    }

    private static void weights() {
        sentence("a symbol's WEIGHT is its points, but 1 for -1");
        due("-1 and 30", isJust(5, 65535, 30), false);
        due("-1 and 31", isJust(5, 65535, 31), true);
        due("-1 and 32", isJust(5, 65535, 32), false);
        due("1 and 31", isJust(5, 1, 31), true);
        due("0 and 32", isJust(5, 0, 32), true);
        due("0 and 31", isJust(5, 0, 31), false);
        for (int n = 31; n <= 33; n++) {
            int[] singles = new int[n];
            Arrays.fill(singles, 65535);
            due(n + " of -1", isJust(5, singles), n == 32);
        }
        // -1 and 1 point have the same weight, so each has one cell of number 1.
        Coder x = Coder.withPoints(5, -1, 1, 30);
        due("bits of -1", x.cell(31, 1), 5);
        due("bits of 1", x.cell(0, 1), 5);
    }

    private static boolean isJust(int order, int... counts) {
        Coder x = new Coder();
        for (int s = 0; s < counts.length; s++) {
            x.count(s, counts[s]);
        }
        return x.just(order);
    }

    private static void weightsTogether() {
        sentence("all weights together are 2^L");
        for (int order = 5; order <= 12; order++) {
            int whole = 1 << order;
            due("one too little", isJust(order, whole - 1), false);
            due("as many", isJust(order, whole), true);
            due("one too much", isJust(order, whole + 1), false);
            due("two, one too little", isJust(order, whole / 2, whole / 2 - 1), false);
            due("two, as many", isJust(order, whole / 2, whole / 2), true);
            due("two, one too much", isJust(order, whole / 2, whole / 2 + 1), false);
            Coder x = new Coder();
            int together = 0;
            for (int s = 0; s < 20; s++) {
                x.count(s, 1 + s * s * s);
            }
            due("by counts", x.share(order), true);
            for (int s = 0; s < 20; s++) {
                together += Math.abs(x.points(s));
            }
            due("by counts, together", together, whole);
        }
    }

    private static void last() {
        sentence("LAST is the highest symbol whose points are not 0.");
        due("symbol 0 alone", Coder.withPoints(5, 32).about(1), 0);
        due("1 point above", Coder.withPoints(5, 31, 1).about(1), 1);
        due("-1 above", Coder.withPoints(5, 31, -1).about(1), 1);
        due("0 above", Coder.withPoints(5, 31, 1, 0).about(1), 1);
        due("0 below", Coder.withPoints(5, 0, 0, 32).about(1), 2);
        due("symbol 254 alone", Coder.onlySymbol(254).about(1), 254);
        due("symbol 255 alone", Coder.onlySymbol(255).about(1), 255);
        Coder x = Coder.withPoints(5, 16, 16);
        due("another share", x.count(1, 0) && x.count(0, 32) && x.just(5), true);
        due("its LAST", x.about(1), 0);
        due("-1 for 255", x.count(0, 31) && x.count(255, 65535) && x.just(5), true);
        due("LAST 255", x.about(1), 255);
    }

    private static void noneAtFirst() {
        sentence("There is none at first.");
        Coder x = new Coder();
        due("about 0", x.about(0), -1);
        due("about 1", x.about(1), -1);
        due("points 0", x.points(0), -2);
        due("points 255", x.points(255), -2);
        due("cell 0", x.cell(0, 0) == -1 && x.cell(0, 1) == -1 && x.cell(0, 2) == -1, true);
        due("describe", x.describe(), -1);
        due("encode", x.encode(), -1);
        due("decode", x.decode(1), -1);
        due("then one", x.count(0, 32) && x.just(5) && x.about(0) == 5, true);
    }

    private static void bitsOfRows() {
        sentence("bit 8 * i + j is the bit 2^j of byte i. A number of n bits from bit p on has bit p as its lowest.");
        // 7 in the bits 0 .. 3; 8191 in the bits 4 .. 16.
        due("over two byte ends", described(12, 4096), new int[] {0xF7, 0xFF, 0x01});
        // 29 = 16 + 8 + 4 + 1 in the bits 4 .. 8; 1 in 9 .. 10; 0 in 11 .. 12; 7 in 13 .. 15.
        due("over a byte's end", described(5, 28, 0, 4), new int[] {0xD0, 0xE3});
        Coder x = Coder.withBits("0000" + "10111" + "10" + "00" + "111");
        due("read", x.read(5, 2), 5);
        due("read points", x.firstPoints(3), new int[] {28, 0, 4});
    }

    private static void highestCells() {
        sentence("Each symbol with -1 points, in rising order, has the highest cell that is not taken.");
        Coder none = Coder.withPoints(5, 31, 1);
        due("none: the highest cell", none.cell(31, 0), 0);
        Coder one = Coder.withPoints(5, 31, -1);
        due("one: the highest cell", one.cell(31, 0), 1);
        due("one: the next", one.cell(30, 0), 0);
        Coder two = Coder.withPoints(5, -1, 30, -1);
        due("two: the highest cell", two.cell(31, 0), 0);
        due("two: the next", two.cell(30, 0), 2);
        due("two: behind them", two.cell(29, 0), 1);
        Coder ends = Coder.onlySymbol(9);
        due("0 and 255", ends.count(0, 65535) && ends.count(255, 65535) && ends.count(9, 30) && ends.just(5), true);
        due("symbol 0 first", ends.cell(31, 0), 0);
        due("symbol 255 then", ends.cell(30, 0), 255);
        Coder all = new Coder();
        for (int s = 0; s < 256; s++) {
            all.count(s, 65535);
        }
        due("all 256", all.just(8), true);
        due("cell 255", all.cell(255, 0), 0);
        due("cell 254", all.cell(254, 0), 1);
        due("cell 1", all.cell(1, 0), 254);
        due("cell 0", all.cell(0, 0), 255);
    }

    private static void cellsBySteps() {
        sentence("going on from cell 0, by steps of 2^(L - 1) + 2^(L - 3) + 3, modulo 2^L");
        int[] steps = {23, 43, 83, 163, 323, 643, 1283, 2563};
        int[] twoSteps = {14, 22, 38, 70, 134, 262, 518, 1030};
        int[] lastCells = {9, 21, 45, 93, 189, 381, 765, 1533};
        for (int order = 5; order <= 12; order++) {
            int step = steps[order - 5];
            Coder x = Coder.withPoints(order, 1, 1, 1, (1 << order) - 3);
            due("from 0 on", x.cell(0, 0), 0);
            due("a step", x.cell(step, 0), 1);
            due("one below the step", x.cell(step - 1, 0), 3);
            due("one above the step", x.cell(step + 1, 0), 3);
            due("two steps, modulo", x.cell(twoSteps[order - 5], 0), 2);
            due("the highest cell", x.cell((1 << order) - 1, 0), 3);
            // The last cell of the round is a step before cell 0.
            Coder y = Coder.withPoints(order, (1 << order) - 1, 1);
            due("the last one", y.cell(lastCells[order - 5], 0), 1);
            due("one below it", y.cell(lastCells[order - 5] - 1, 0), 0);
            due("one above it", y.cell(lastCells[order - 5] + 1, 0), 0);
        }
        // All cells of order 5 in their order, each taken by a symbol of its own.
        int[] round = {0, 23, 14, 5, 28, 19, 10, 1, 24, 15, 6, 29, 20, 11, 2, 25,
            16, 7, 30, 21, 12, 3, 26, 17, 8, 31, 22, 13, 4, 27, 18, 9};
        Coder ones = new Coder();
        for (int s = 0; s < 32; s++) {
            ones.count(s, 1);
        }
        due("32 of 1 point", ones.just(5), true);
        for (int s = 0; s < 32; s++) {
            due("cell " + round[s], ones.cell(round[s], 0), s);
        }
    }

    private static void cellsLeftOut() {
        sentence("cells that symbols with -1 points have being left out (the first one is cell 0, or the next one by steps)");
        // So many symbols of -1 have the cells from 31 down to 32 less that; cells by steps: 0, 23, 14, 5, 28, 19, 10, 1.
        due("8: 23 is free", secondAndThird(8), new int[] {23, 14});
        due("9: 23 is left out", secondAndThird(9), new int[] {14, 5});
        due("17: 14 is free", secondAndThird(17), new int[] {14, 5});
        due("18: 14 is left out", secondAndThird(18), new int[] {5, 10});
        due("21: 10 is free", secondAndThird(21), new int[] {5, 10});
        due("22: 10 is left out", secondAndThird(22), new int[] {5, 1});
        Coder one = withSingles(31, 1);
        due("31: the first is cell 0", one.cell(0, 0), 31);
        due("31: cell 1", one.cell(1, 0), 30);
        Coder none = withSingles(32);
        due("32: cell 0", none.cell(0, 0), 31);
        due("32: cell 31", none.cell(31, 0), 0);
    }

    private static Coder withSingles(int singles, int... others) {
        int[] points = new int[singles + others.length];
        Arrays.fill(points, 0, singles, -1);
        System.arraycopy(others, 0, points, singles, others.length);
        return Coder.withPoints(5, points);
    }

    /** The cells of the second and third symbol that have 1 point; the first one's is cell 0. */
    private static int[] secondAndThird(int singles) {
        Coder x = withSingles(singles, 1, 1, 1, 32 - singles - 3);
        due("the first is cell 0", x.cell(0, 0), singles);
        int[] cells = new int[2];
        for (int k = 1; k < 32; k++) {
            int which = x.cell(k, 0) - singles - 1;
            if (which == 0 || which == 1) {
                cells[which] = k;
            }
        }
        return cells;
    }

    private static void numbers() {
        sentence("the cells of a symbol of weight w have, in rising order, the NUMBERS w, w + 1, .. 2 w - 1");
        // A number x of order 5 shows in bits b and BASE: x = (BASE + 32) / 2^b.
        due("-1", numbersOf(0, -1, 31), new int[] {1});
        due("weight 1", numbersOf(0, 1, 31), new int[] {1});
        due("weight 2", numbersOf(0, 2, 30), new int[] {2, 3});
        due("weight 3", numbersOf(0, 3, 29), new int[] {3, 4, 5});
        due("weight 4", numbersOf(0, 4, 28), new int[] {4, 5, 6, 7});
        due("the last symbol", numbersOf(1, 27, 5), new int[] {5, 6, 7, 8, 9});
        for (int w : new int[] {15, 16, 17, 30, 31, 32}) {
            int[] numbers = numbersOf(0, w, 32 - w);
            due(w + ": how many", numbers.length, w);
            due(w + ": the lowest", numbers[0], w);
            due(w + ": the next", numbers[1], w + 1);
            due(w + ": the highest", numbers[w - 1], 2 * w - 1);
        }
    }

    private static int[] numbersOf(int symbol, int... points) {
        Coder x = Coder.withPoints(5, points);
        int[] numbers = new int[32];
        int n = 0;
        for (int k = 0; k < 32; k++) {
            if (x.cell(k, 0) == symbol) {
                numbers[n++] = (x.cell(k, 2) + 32) >> x.cell(k, 1);
            }
        }
        return Arrays.copyOf(numbers, n);
    }

    private static void bitsAndBases() {
        sentence("A cell with number x takes b = L - (the greatest k with 2^k <= x) bits, and its BASE is x * 2^b - 2^L.");
        // Cell 0 is the lowest of symbol 0, so its number is that symbol's points.
        for (int order = 5; order <= 12; order++) {
            int whole = 1 << order;
            for (int k = 1; k < order; k++) {
                int width = 1 << (order - k);
                cellZero(order, (1 << k) - 1, order - k + 1, whole - 2 * width);
                cellZero(order, 1 << k, order - k, 0);
                cellZero(order, (1 << k) + 1, order - k, width);
            }
            cellZero(order, whole - 1, 1, whole - 2);
            cellZero(order, whole, 0, 0);
            Coder all = Coder.withPoints(order, whole);
            due("highest number, bits", all.cell(whole - 1, 1), 0);
            due("highest number, BASE", all.cell(whole - 1, 2), whole - 1);
        }
    }

    private static void cellZero(int order, int points, int bits, int base) {
        Coder x = Coder.withPoints(order, points, (1 << order) - points);
        due("order " + order + ", number " + points + ", bits", x.cell(0, 1), bits);
        due("order " + order + ", number " + points + ", BASE", x.cell(0, 2), base);
    }

    private static void rowOfNoneOrOne() {
        sentence("A ROW OF SYMBOLS s_0 .. s_(n - 1), n above 0");
        Coder x = Coder.withPoints(5, 16, 16);
        due("n 0", x.encode(), -2);
        due("n 1", x.write(0, 1) && x.encode() == 1, true);
        due("n 1, bits", x.outBytes(), Bits.bytes("00000" + "1"));
        due("n 2", x.write(0, 1) && x.encode() == 1, true);
        due("n 2, bits", x.outBytes(), Bits.bytes("0" + "00000" + "1"));
    }

    private static void rowOfWeightAboveZero() {
        sentence("all of weight above 0");
        due("weight 0", encodeOf(2), -3);
        due("weight 1 by -1", encodeOf(0), 1);
        due("weight 1 by 1 point", encodeOf(1), 1);
        due("weight 30", encodeOf(3), 1);
        due("0 before others", encodeOf(2, 0, 1, 3), -3);
        due("0 among others", encodeOf(0, 2, 1), -3);
        due("0 behind others", encodeOf(0, 1, 3, 2), -3);
    }

    private static int encodeOf(int... row) {
        Coder x = Coder.withPoints(5, -1, 1, 0, 30);
        x.appendBytes(row);
        return x.encode();
    }

    private static void firstState() {
        sentence("the state is the lowest cell of s_(n - 1)");
        int[] mixed = {3, -1, 27, -1};
        due("cells 0, 14, 23", encoded(mixed, 0), Bits.bytes("00000" + "1"));
        due("cell 31", encoded(mixed, 1), Bits.bytes("11111" + "1"));
        due("cells from 1 on", encoded(mixed, 2), Bits.bytes("10000" + "1"));
        due("cell 30", encoded(mixed, 3), Bits.bytes("01111" + "1"));
    }

    private static void withinOneCell() {
        sentence("it is within BASE .. BASE + 2^b - 1 of just one cell of that symbol; it is written, less that BASE, in b bits");
        // Symbol 0 has cell 0 (16 .. 31), cell 14 (0 .. 7) and cell 23 (8 .. 15); each other symbol has one cell.
        int[] points = new int[30];
        Arrays.fill(points, 1);
        points[0] = 3;
        due("state 0", encoded(points, 0, 0), Bits.bytes("000" + "01110" + "1"));
        due("state 1", encoded(points, 0, 5), Bits.bytes("100" + "01110" + "1"));
        due("state 7", encoded(points, 0, 15), Bits.bytes("111" + "01110" + "1"));
        due("state 8", encoded(points, 0, 22), Bits.bytes("000" + "11101" + "1"));
        due("state 15", encoded(points, 0, 7), Bits.bytes("111" + "11101" + "1"));
        due("state 16", encoded(points, 0, 14), Bits.bytes("0000" + "00000" + "1"));
        due("state 31", encoded(points, 0, 23), Bits.bytes("1111" + "00000" + "1"));
        // One cell takes all states in 5 bits; a symbol that has all takes none.
        due("state 31, weight 1", encoded(points, 23, 23), Bits.bytes("11111" + "11111" + "1"));
        due("state 0, weight 32", encoded(new int[] {32}, 0, 0), Bits.bytes("00000" + "1"));
    }

    private static void endOfRow() {
        sentence("At last the state is written in L bits, then a 1, then zeros up to the end of a byte.");
        // With 16 points each, a row of n times 0 is n - 1 zeros, 5 zeros and the 1.
        int[] half = {16, 16};
        due("1 is bit 6", encoded(half, new int[2]), new int[] {64});
        due("1 is bit 7, no zeros", encoded(half, new int[3]), new int[] {128});
        due("1 is bit 8, seven zeros", encoded(half, new int[4]), new int[] {0, 1});
        due("1 is bit 9", encoded(half, new int[5]), new int[] {0, 2});
        due("1 is bit 15", encoded(half, new int[11]), new int[] {0, 128});
        due("1 is bit 16", encoded(half, new int[12]), new int[] {0, 0, 1});
        int[][] alone = {{32}, {64}, {128}, {0, 1}, {0, 2}, {0, 4}, {0, 8}, {0, 16}};
        for (int order = 5; order <= 12; order++) {
            Coder x = Coder.withPoints(order, 1 << order);
            due("encode, order " + order, x.write(0, 1) && x.encode() == alone[order - 5].length, true);
            due("order " + order, x.outBytes(), alone[order - 5]);
        }
    }

    private static void readFromItsEnd() {
        sentence("the highest 1 of the last byte is the END; what is read are the highest bits below the END");
        int[] half = {16, 16};
        due("last byte 0", decoded(half, 1, 32, 0), -2);
        due("END is bit 0, no bits below", decoded(half, 1, 1), -3);
        due("END is bit 4", decoded(half, 1, 31), -3);
        due("END is bit 5", decoded(half, 1, 32), 1);
        due("END is bit 5, all below", decoded(half, 1, 63), 1);
        due("END is bit 6", decoded(half, 2, 64), 2);
        due("END is bit 7", decoded(half, 3, 255), 3);
        due("END is bit 8", decoded(half, 4, 255, 1), 4);
        // Cells 0 .. 31 of 16 points each: 0 has 0 1 2 5 6 10 11 14 15 19 20 23 24 25 28 29.
        Coder x = Coder.withPoints(5, half);
        x.appendBits("1" + "11010" + "1");
        // The state is 01011 = 11, of 0, the seventh of its cells: number 22, BASE 12; the bit 1 makes it 13, of 1.
        due("decode", x.decode(2), 2);
        due("the state is next to the END", x.outBytes(), new int[] {0, 1});
    }

    private static void nothingBehindLast() {
        sentence("behind each but the last one the next state is the cell's BASE and its bits as a number");
        // 1 has cell 31 alone, which takes 5 bits; 0 has all others: cell 0 takes 1 bit, the others none.
        int[] points = {31, -1};
        due("the last one's 5 bits are not there", decoded(points, 1, 63), 1);
        due("the next one's are due", decoded(points, 2, 63), -3);
        Coder x = Coder.withPoints(5, points);
        x.appendBits("11111" + "11111" + "1");
        due("5 bits behind the first", x.decode(2), 2);
        due("5 bits behind the first, row", x.outBytes(), new int[] {1, 1});
        due("5 bits lack behind the second", x.decode(3), -3);
        // Cell 30 is of 0 and has the number 61: no bits, BASE 29.
        Coder y = Coder.withPoints(5, points);
        y.appendBits("01111" + "1");
        due("no bits behind the first", y.decode(2), 2);
        due("no bits behind the first, row", y.outBytes(), new int[] {0, 0});
    }

    private static int decoded(int[] points, int n, int... bytes) {
        Coder x = Coder.withPoints(5, points);
        x.appendBytes(bytes);
        return x.decode(n);
    }

    private static void orderWritten() {
        sentence("A SHARE is written so: L - 5 in 4 bits.");
        for (int order = 5; order <= 12; order++) {
            due("order " + order, described(order, 1 << order)[0] & 15, order - 5);
        }
    }

    private static void asLongAsSomethingLacks() {
        sentence("Then symbols in rising order from 0 on, as long as their weights together are below 2^L");
        due("nothing lacks behind 0", described(5, 32), Bits.bytes("0000" + "111111"));
        due("1 lacks behind 0", described(5, 31, 1), Bits.bytes("0000" + "011111" + "11"));
        due("1 lacks behind 1", described(5, 30, 1, 1), Bits.bytes("0000" + "111110" + "01" + "11"));
        due("-1 at last", described(5, 31, -1), Bits.bytes("0000" + "011111" + "0"));
        Coder x = Coder.withBits("0000" + "111111");
        due("no symbol behind it is read", x.read(5, 0), 5);
    }

    private static void lowestAndHighestNumber() {
        sentence("R being what lacks, the points and 1 are a number v from 0 to R + 1");
        // R 32: m 30. v 0 is short, v 33 is 63. R 31: m 31, v 0 is short, v 32 is 63. R 1: m 1; 0, 1 and 2 are 0, 1 and 3.
        due("v 33 of R 32", described(5, 32), Bits.bytes("0000" + "111111"));
        due("v 0 of R 32, v 32 of R 31", described(5, -1, 31), Bits.bytes("0000" + "00000" + "111111"));
        due("v 0 of R 1", described(5, 31, -1), Bits.bytes("0000" + "011111" + "0"));
        due("v 1 of R 1, v 2 of R 1", described(5, 31, 0, 1), Bits.bytes("0000" + "011111" + "10" + "00" + "11"));
        // R 4096: m 4094; v 0 in 12 bits. R 4095: m 4095; v 4096 + 4095 = 8191.
        due("order 12", described(12, -1, 4095), Bits.bytes("1110" + "000000000000" + "1111111111111"));
    }

    private static void powerNotAbove() {
        sentence("t is the greatest power of two that is not above R + 1, and m = 2 t - 2 - R");
        // R 32: t 32, m 30. R 31: t 32, m 31. R 30: t 16, m 0, so all take 5 bits.
        due("R + 1 is 33", described(5, 1, 31), Bits.bytes("0000" + "01000" + "111111"));
        due("R + 1 is 32", described(5, -1, 1, 30), Bits.bytes("0000" + "00000" + "01000" + "11111"));
        due("R + 1 is 31, short below 16 no more", described(5, -1, -1, 0, 30),
            Bits.bytes("0000" + "00000" + "00000" + "10000" + "00" + "11111"));
        // R 4: t 4, m 2. R 3: t 4, m 3. R 2: t 2, m 0. R 1: t 2, m 1.
        due("R + 1 is 5, 4, 3, 2", described(5, 28, -1, -1, -1, -1),
            Bits.bytes("0000" + "10111" + "00" + "00" + "00" + "0"));
        // R 4096: t 4096, m 4094. R 4095: t 4096, m 4095. R 4094: t 2048, m 0, all in 12 bits.
        due("R + 1 is 4097, 4096, 4095", described(12, -1, -1, 4094),
            Bits.bytes("1110" + "000000000000" + "000000000000" + "111111111111"));
    }

    private static void shortAndLongNumbers() {
        sentence("v below m takes as many bits as t - 1 has; another one, one bit more: v itself if it is below t, else v + m.");
        // R 32: t 32, m 30. What lacks then, R 4, 3, 2, 1, has t 4, 4, 2, 2 and m 2, 3, 0, 1: the whole of it is all ones.
        written("v is m - 1", "0000" + "10111" + "111", 28, 4);
        written("v is m", "0000" + "011110" + "111", 29, 3);
        written("v is t - 1", "0000" + "111110" + "11", 30, 2);
        written("v is t", "0000" + "011111" + "11", 31, 1);
        // R 20 behind 12 points: t 16, m 10.
        String first = "0000" + "10110";
        written("R 20, v 9", first + "1001" + "1111", 12, 8, 12);
        written("R 20, v 10", first + "01010" + "1111", 12, 9, 11);
        written("R 20, v 11", first + "11010" + "1111", 12, 10, 10);
        written("R 20, v 14", first + "01110" + "1111", 12, 13, 7);
        written("R 20, v 15", first + "11110" + "111", 12, 14, 6);
        written("R 20, v 16", first + "01011" + "111", 12, 15, 5);
        written("R 20, v 17", first + "11011" + "111", 12, 16, 4);
        written("R 20, v 21", first + "11111", 12, 20);
        // R 31 behind -1: t 32, m 31. R 30 behind two of -1: t 16, m 0.
        written("R 31, v 30", "0000" + "00000" + "01111" + "11", -1, 29, 2);
        written("R 31, v 31", "0000" + "00000" + "111110" + "11", -1, 30, 1);
        written("R 31, v 32", "0000" + "00000" + "111111", -1, 31);
        written("R 30, v 15", "0000" + "00000" + "00000" + "11110" + "11111", -1, -1, 14, 16);
        written("R 30, v 16", "0000" + "00000" + "00000" + "00001" + "11111", -1, -1, 15, 15);
        written("R 30, v 17", "0000" + "00000" + "00000" + "10001" + "1111", -1, -1, 16, 14);
    }

    /** Points are written as these bits, and are read from them. */
    private static void written(String what, String bits, int... points) {
        due(what, described(5, points), Bits.bytes(bits));
        Coder x = Coder.withBits(bits);
        due(what + ", read", x.read(5, points.length - 1), 5);
        due(what + ", points", x.firstPoints(points.length), points);
        due(what + ", PLACE", x.at(), (bits.length() + 7) / 8);
    }

    private static void zerosByThrees() {
        sentence("in 2 bits each, how many of the next symbols have 0 points, too: 3 as long as three do and it goes on, at last 0 .. 2");
        String[] told = {"00", "10", "01", "1100", "1110", "1101", "111100", "111110"};
        for (int zeros = 0; zeros < told.length; zeros++) {
            int[] points = new int[zeros + 2];
            points[zeros + 1] = 32;
            written(zeros + " more", "0000" + "10000" + told[zeros] + "111111", points);
        }
        // 253 and 254 more are 84 threes and 1 or 2.
        for (int symbol = 254; symbol <= 255; symbol++) {
            String bits = "0000" + "10000" + "11".repeat(84) + (symbol == 254 ? "10" : "01") + "111111";
            Coder x = Coder.onlySymbol(symbol);
            due("symbol " + symbol, x.describe(), Bits.bytes(bits).length);
            due("symbol " + symbol + ", bytes", x.outBytes(), Bits.bytes(bits));
            x.turn();
            due("symbol " + symbol + ", read", x.read(5, symbol), 5);
            due("symbol " + symbol + ", points", x.points(symbol), 32);
        }
    }

    private static void numberBehindZeros() {
        sentence("the next number is of the symbol behind these");
        // R 32: 0 points and one more; 29 points are 30; R 3: m 3; 0 points in 2 bits and two more; v 4 is 7 in 3 bits.
        written("zeros twice", "0000" + "10000" + "10" + "011110" + "10" + "01" + "111", 0, 0, 29, 0, 0, 0, 3);
        written("-1 behind zeros", "0000" + "011111" + "10" + "00" + "0", 31, 0, -1);
    }

    private static void filledByte() {
        sentence("Zeros up to the end of a byte follow.");
        // 4 + 5 + 6 bits; 4 + 5 + 5 + 2; 4 + 5 + 2 + 6.
        due("15 bits", described(5, -1, 31), new int[] {0, 126});
        due("16 bits, no zeros", described(5, -1, 29, 2), new int[] {0, 0b11111100});
        due("17 bits, seven zeros", described(5, 0, 32), new int[] {16, 248, 1});
    }

    private static void countsTogether() {
        sentence("A SHARE BY COUNTS c (T together, above 0)");
        Coder x = new Coder();
        due("T 0", x.share(5), false);
        due("T 1", x.count(8, 1) && x.share(5), true);
        due("T 1, all to one", x.points(8), 32);
        due("T 65535, all to one", x.count(8, 65535) && x.share(12) && x.points(8) == 4096, true);
        due("T 0 again", x.count(8, 0) && x.share(5), false);
        // The greatest T: 256 * 65535.
        Coder y = new Coder();
        for (int s = 0; s < 256; s++) {
            y.count(s, 65535);
        }
        due("the greatest T", y.share(12), true);
        due("the lowest symbol", y.points(0), 16);
        due("the highest symbol", y.points(255), 16);
        due("one less", y.count(9, 65534) && y.share(12), true);
        // 65535 * 4096 / 16776959 is 16 and 16 / 16776959; 65534 * 4096 / 16776959 is 15 and nearly 1, which comes back.
        due("one less, that one", y.points(9), 16);
    }

    private static void countZero() {
        sentence("a symbol with c = 0 has 0 points");
        due("0, 1 and 2", shared(5, 0, 1, 2, 0), new int[] {0, 11, 21, 0});
        due("0 beside the greatest", shared(12, 0, 65535), new int[] {0, 4096});
        due("1 beside the greatest", shared(12, 1, 65535), new int[] {-1, 4095});
        // Of 0, much was cut off before it has no count: 1.9 of T 320; 10 and 2/3, 21 and 1/3 of T 3.
        Coder x = new Coder();
        due("1.9", x.count(0, 19) && x.count(1, 301) && x.share(5) && x.points(0) == 2, true);
        due("0 then", x.count(0, 0) && x.count(1, 1) && x.count(2, 2) && x.share(5), true);
        due("0, 1 and 2 then", x.firstPoints(3), new int[] {0, 11, 21});
    }

    private static void countBelowOnePoint() {
        sentence("if c * 2^L is below T, -1; otherwise c * 2^L / T, cut");
        for (int order = 5; order <= 12; order++) {
            int whole = 1 << order;
            // c = 1: 2^L is one below T, is T, is one above T.
            due("one below", shared(order, 1, whole), new int[] {-1, whole - 1});
            due("just T", shared(order, 1, whole - 1), new int[] {1, whole - 1});
            due("one above", shared(order, 1, whole - 2), new int[] {1, whole - 1});
        }
    }

    private static void pointsCut() {
        sentence("otherwise c * 2^L / T, cut");
        // T 320 of order 5: a tenth of a point for each count.
        due("1.6 1.7 28.7", shared(5, 16, 17, 287), new int[] {1, 2, 29});
        due("1.9 1.9 28.2", shared(5, 19, 19, 282), new int[] {2, 2, 28});
        due("1.0 2.0 29.0", shared(5, 10, 20, 290), new int[] {1, 2, 29});
        due("1.1 1.9 29.0", shared(5, 11, 19, 290), new int[] {1, 2, 29});
        due("0.9 2.1 29.0", shared(5, 9, 21, 290), new int[] {-1, 2, 29});
    }

    private static void lackingByCut() {
        sentence("those of 1 or more points get one more each, in the order of what was cut off (the greatest first");
        // T 3200 of order 5: a hundredth of a point for each count.
        due("1.50 1.51 28.99", shared(5, 150, 151, 2899), new int[] {1, 2, 29});
        due("1.51 1.50 28.99", shared(5, 151, 150, 2899), new int[] {2, 1, 29});
        due("1.33 1.33 29.34", shared(5, 133, 133, 2934), new int[] {1, 1, 30});
        due("1.34 1.33 29.33", shared(5, 134, 133, 2933), new int[] {2, 1, 29});
        due("nothing lacks", shared(5, 100, 200, 2900), new int[] {1, 2, 29});
        due("1 lacks", shared(5, 101, 299, 2800), new int[] {1, 3, 28});
        due("2 lack", shared(5, 198, 199, 2803), new int[] {2, 2, 28});
    }

    private static void lackingOfSameCut() {
        sentence("of the same the lower symbol first), again and again until nothing lacks");
        due("1.5 1.5 29.0", shared(5, 150, 150, 2900), new int[] {2, 1, 29});
        due("29.0 1.5 1.5", shared(5, 2900, 150, 150), new int[] {29, 2, 1});
        due("three alike, 2 lack", shared(5, 7, 7, 7), new int[] {11, 11, 10});
        int[] alike = new int[31];
        Arrays.fill(alike, 5);
        int[] one = new int[31];
        Arrays.fill(one, 1);
        one[0] = 2;
        due("31 alike, 1 lacks", shared(5, alike), one);
        // 32 = 2 * 11 + 10: all but the last get one more.
        due("11 alike, 10 lack", shared(5, 1, 1, 1, 1, 1, 1, 1, 1, 1, 1, 1), new int[] {3, 3, 3, 3, 3, 3, 3, 3, 3, 3, 2});
        Coder x = new Coder();
        due("0 and 255", x.count(0, 1) && x.count(255, 2) && x.count(100, 1) && x.count(200, 1), true);
        // 6.4, 6.4, 6.4 and 12.8: 2 lack.
        due("share", x.share(5), true);
        due("255 has the greatest cut", x.points(255), 13);
        due("0 is the lowest of the others", x.points(0), 7);
        due("100 is not", x.points(100), 6);
        due("200 is not", x.points(200), 6);
    }

    private static void lackingNotToMinusOne() {
        sentence("those of 1 or more points get one more each");
        // T 41: 32 of 41 are cut from 1, 25 of 41 from each 20; 1 lacks.
        due("-1 gets none", shared(5, 1, 20, 20), new int[] {-1, 16, 15});
        // T 32 + 4 = 36: 1 has 32 of 36; 2 has 1 and 28 of 36; 33 has 29 and 12 of 36: 31, 1 lacks.
        due("1 point gets one", shared(5, 1, 2, 33), new int[] {-1, 2, 29});
    }

    private static void tooMuch() {
        sentence("If they are too much: one point is taken from the symbol with the most points (of the same the lowest one), again and again.");
        // T 2002: 15 and 15 and two of -1 are just 32. T 2003: three of -1, 33. T 2004: 34. T 2005: 35.
        due("nothing too much", shared(5, 1000, 1000, 1, 1), new int[] {15, 15, -1, -1});
        due("1 too much", shared(5, 1000, 1000, 1, 1, 1), new int[] {14, 15, -1, -1, -1});
        due("2 too much", shared(5, 1000, 1000, 1, 1, 1, 1), new int[] {14, 14, -1, -1, -1, -1});
        due("3 too much", shared(5, 1000, 1000, 1, 1, 1, 1, 1), new int[] {13, 14, -1, -1, -1, -1, -1});
        // T 2013: 15 and 16 and three of -1: first from the most, then from the lowest of the same.
        due("the most is not the lowest", shared(5, 1000, 1010, 1, 1, 1), new int[] {14, 15, -1, -1, -1});
        // T 3003: 10 and 21 and three of -1: both from the same.
        due("the most twice", shared(5, 1000, 2000, 1, 1, 1), new int[] {10, 19, -1, -1, -1});
        int[] counts = new int[32];
        Arrays.fill(counts, 1);
        counts[31] = 65535;
        int[] points = new int[32];
        Arrays.fill(points, -1);
        points[31] = 1;
        due("down to 1 point", shared(5, counts), points);
    }

    private static void rowLimits() {
        sentence("IN and OUT are rows of at most 6000 bytes, empty at first");
        Coder x = new Coder();
        due("IN is empty", x.place(0) && !x.place(1), true);
        due("OUT is empty", x.size(), 0);
        due("OUT has no byte", x.byteAt(0), -1);
        Coder y = Coder.fullOf(1, 5999);
        due("OUT of 5999", y.size(), 5999);
        due("IN of 5999", y.inLength(), 5999);
        due("IN of 6000", y.write(1, 1) && y.inLength() == 6000, true);
        due("IN of 6001", y.write(1, 1), false);
        due("IN is of 6000", y.inLength(), 6000);
        Coder z = Coder.onlySymbol(1);
        due("OUT of 6000", z.write(32, 1) && z.decode(6000) == 6000 && z.size() == 6000, true);
        due("OUT of 6001", z.decode(6001), -1);
        due("OUT is of 6000", z.size(), 6000);
    }

    private static void placeAtFirst() {
        sentence("PLACE is where reading in IN goes on, 0 at first.");
        Coder x = new Coder();
        due("at first", x.at(), 0);
        x.appendBits("0000" + "111111" + "000000" + "0000" + "011111" + "111111");
        due("writing leaves it", x.at(), 0);
        due("read", x.read(5, 255), 5);
        due("behind the first", x.at(), 2);
        due("the first", x.points(0), 32);
        due("read on", x.read(5, 255), 5);
        due("behind the second", x.at(), 4);
        due("the second", x.firstPoints(2), new int[] {31, 1});
        due("at the end", x.read(5, 255), -3);
        due("still there", x.at(), 4);
        due("the length of IN", x.place(4) && !x.place(5), true);
    }
}

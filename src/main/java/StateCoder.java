import java.util.Arrays;

/** Codes rows of symbols by states; the numbered promises are those of the document DOC.md. */
public final class StateCoder {
    private static final int ROW_LIMIT = 6000;
    private static final int SYMBOLS = 256;
    private static final int LOWEST_ORDER = 5;
    private static final int HIGHEST_ORDER = 12;
    private static final int MOST_CELLS = 4096;
    private static final int HIGHEST_COUNT = 65535;
    private static final int ORDER_BITS = 4;
    private static final int ZEROS_BITS = 2;

    private final int[] counts = new int[SYMBOLS];
    private final int[] plan = new int[SYMBOLS];
    private final Row in = new Row();
    private final Share current = new Share();
    private final CountsRule rule = new CountsRule();
    private Row out = new Row();
    private Row spare = new Row();
    private int position;

    public StateCoder() {
    }

    public boolean write(long bytes, int n) {
        if (n < 1 || n > 8 || in.length() + n > ROW_LIMIT) {
            return false;
        }
        for (int i = n - 1; i >= 0; i--) {
            in.add((int) (bytes >> (8 * i)) & 255);
        }
        return true;
    }

    public void turn() {
        in.copyFrom(out);
        position = 0;
    }

    public void clear() {
        in.empty();
        position = 0;
        Arrays.fill(counts, 0);
    }

    public boolean place(int p) {
        if (p < 0 || p > in.length()) {
            return false;
        }
        position = p;
        return true;
    }

    public int at() {
        return position;
    }

    public boolean count(int symbol, int c) {
        if (!isSymbol(symbol) || c < 0 || c > HIGHEST_COUNT) {
            return false;
        }
        counts[symbol] = c;
        return true;
    }

    public int countAll() {
        Arrays.fill(counts, 0);
        for (int i = position; i < in.length(); i++) {
            counts[in.byteOrZero(i)]++;
        }
        return in.length() - position;
    }

    public boolean share(int order) {
        if (!isOrder(order) || !rule.makePoints(counts, order, plan)) {
            return false;
        }
        current.become(order, plan);
        return true;
    }

    public boolean just(int order) {
        if (!isOrder(order)) {
            return false;
        }
        int together = 0;
        for (int s = 0; s < SYMBOLS; s++) {
            plan[s] = counts[s] == HIGHEST_COUNT ? -1 : counts[s];
            together += weight(plan[s]);
        }
        if (together != 1 << order) {
            return false;
        }
        current.become(order, plan);
        return true;
    }

    public int describe() {
        if (!current.exists()) {
            return -1;
        }
        ShareWriter.putShare(current, out);
        return out.length();
    }

    public int read(int most, int last) {
        if (!isOrder(most) || !isSymbol(last)) {
            return -4;
        }
        in.startTaking(position);
        int order = ShareReader.takeShare(in, most, last, plan);
        if (order > 0) {
            current.become(order, plan);
            position += in.bytesTaken();
        }
        return order;
    }

    public int about(int what) {
        if (!current.exists()) {
            return -1;
        }
        if (what == 0) {
            return current.order();
        }
        return what == 1 ? current.lastSymbol() : -1;
    }

    public int points(int symbol) {
        return current.exists() && isSymbol(symbol) ? current.pointsOf(symbol) : -2;
    }

    public int cell(int k, int what) {
        if (!current.hasCell(k)) {
            return -1;
        }
        switch (what) {
            case 0:
                return current.symbolOf(k);
            case 1:
                return current.bitsOf(k);
            case 2:
                return current.baseOf(k);
            default:
                return -1;
        }
    }

    public int encode() {
        if (!current.exists()) {
            return -1;
        }
        if (position >= in.length()) {
            return -2;
        }
        if (!RowCoder.allHaveWeight(in, position, current)) {
            return -3;
        }
        if (!RowCoder.putRow(in, position, current, spare)) {
            return -4;
        }
        makeSpareOut();
        return out.length();
    }

    public int decode(int n) {
        if (!current.exists() || n < 1 || n > ROW_LIMIT) {
            return -1;
        }
        if (position >= in.length() || in.byteOrZero(in.length() - 1) == 0) {
            return -2;
        }
        int answer = RowCoder.takeRow(in, position, n, current, spare);
        if (answer > 0) {
            makeSpareOut();
        }
        return answer;
    }

    public int size() {
        return out.length();
    }

    public int byteAt(int k) {
        return k < 0 || k >= out.length() ? -1 : out.byteOrZero(k);
    }

    /** Only a call that is not refused gets here, so a refused one leaves OUT as it was. */
    private void makeSpareOut() {
        Row filled = spare;
        spare = out;
        out = filled;
    }

    private static boolean isSymbol(int symbol) {
        return symbol >= 0 && symbol < SYMBOLS;
    }

    private static boolean isOrder(int order) {
        return order >= LOWEST_ORDER && order <= HIGHEST_ORDER;
    }

    private static int weight(int points) {
        return points == -1 ? 1 : points;
    }

    /** The greatest k with 2^k not above x, for x above 0. */
    private static int exponent(int x) {
        int k = 0;
        while (k < 30 && (x >> (k + 1)) > 0) {
            k++;
        }
        return k;
    }

    /** A row of bytes with a limit; bits can be put behind it, and be taken from it. */
    private static final class Row {
        private final byte[] bytes = new byte[ROW_LIMIT];
        private int length;
        private int held;
        private int heldBits;
        private boolean overfull;
        private int takeStart;
        private int takenBits;

        int length() {
            return length;
        }

        void empty() {
            length = 0;
            held = 0;
            heldBits = 0;
            overfull = false;
        }

        void add(int b) {
            if (length >= 0 && length < ROW_LIMIT) {
                bytes[length] = (byte) b;
                length++;
            } else {
                overfull = true;
            }
        }

        /** Says that bytes were added that the row had no room for. */
        boolean isOverfull() {
            return overfull;
        }

        int byteOrZero(int k) {
            return k < 0 || k >= length || k >= ROW_LIMIT ? 0 : bytes[k] & 255;
        }

        void copyFrom(Row other) {
            empty();
            System.arraycopy(other.bytes, 0, bytes, 0, ROW_LIMIT);
            length = other.length;
        }

        /** Puts a number of n bits, n at most 13, behind the bits before. */
        void putBits(int number, int n) {
            held |= number << heldBits;
            heldBits += n;
            while (heldBits >= 8) {
                add(held & 255);
                held >>= 8;
                heldBits -= 8;
            }
        }

        /** Puts zeros up to the end of a byte. */
        void closeBits() {
            if (heldBits > 0) {
                putBits(0, 8 - heldBits);
            }
        }

        /** The number of n bits, n at most 13, from a bit on; bits are counted from byte start. */
        int number(int start, int bit, int n) {
            int first = start + (bit >> 3);
            // 13 bits and the 7 that may stand before them in the first byte lie in three bytes.
            int three = byteOrZero(first) | byteOrZero(first + 1) << 8 | byteOrZero(first + 2) << 16;
            return (three >> (bit & 7)) & ((1 << n) - 1);
        }

        void startTaking(int start) {
            takeStart = start;
            takenBits = 0;
        }

        boolean hasBits(int n) {
            return takenBits + n <= 8 * (length - takeStart);
        }

        /** The number that takeBits would take. */
        int nextBits(int n) {
            return number(takeStart, takenBits, n);
        }

        int takeBits(int n) {
            int number = nextBits(n);
            takenBits += n;
            return number;
        }

        /** How many bytes have a bit that was taken. */
        int bytesTaken() {
            return (takenBits + 7) >> 3;
        }
    }

    /** A share and its cells; order 0 stands for none. */
    private static final class Share {
        private final int[] points = new int[SYMBOLS];
        private final int[] symbols = new int[MOST_CELLS];
        private final int[] bits = new int[MOST_CELLS];
        private final int[] bases = new int[MOST_CELLS];
        /** All cells, by symbol and in rising order within a symbol. */
        private final int[] cellsBySymbol = new int[MOST_CELLS];
        private final int[] firstOfSymbol = new int[SYMBOLS];
        private final int[] nextNumber = new int[SYMBOLS];
        private int order;

        boolean exists() {
            return order > 0;
        }

        int order() {
            return order;
        }

        int cells() {
            return 1 << order;
        }

        boolean hasCell(int k) {
            return exists() && k >= 0 && k < cells() && k < MOST_CELLS;
        }

        int pointsOf(int symbol) {
            return isSymbol(symbol) ? points[symbol] : 0;
        }

        int weightOf(int symbol) {
            return weight(pointsOf(symbol));
        }

        int lastSymbol() {
            int last = SYMBOLS - 1;
            while (last > 0 && points[last] == 0) {
                last--;
            }
            return last;
        }

        int symbolOf(int cell) {
            return hasCell(cell) ? symbols[cell] : 0;
        }

        int bitsOf(int cell) {
            return hasCell(cell) ? bits[cell] : 0;
        }

        int baseOf(int cell) {
            return hasCell(cell) ? bases[cell] : 0;
        }

        /** The cell of a symbol that has a number, which is from its weight on and below twice that. */
        int cellOf(int symbol, int number) {
            int slot = slotOf(symbol, number);
            return hasCell(slot) ? cellsBySymbol[slot] : 0;
        }

        /** Takes on points whose weights together are 2^newOrder. */
        void become(int newOrder, int[] newPoints) {
            order = newOrder;
            for (int s = 0; s < SYMBOLS && s < newPoints.length; s++) {
                points[s] = newPoints[s];
            }
            spreadOthers(spreadSingles());
            startNumbers();
            numberCells();
        }

        private int slotOf(int symbol, int number) {
            return isSymbol(symbol) ? firstOfSymbol[symbol] + number - weight(points[symbol]) : 0;
        }

        /** Gives the highest cells to the symbols with -1 points; the end of the cells below these. */
        private int spreadSingles() {
            int lowest = cells();
            for (int s = 0; s < SYMBOLS; s++) {
                if (points[s] == -1 && hasCell(lowest - 1)) {
                    lowest--;
                    symbols[lowest] = s;
                }
            }
            return lowest;
        }

        /** Gives the cells below end. The step is odd, so each cell comes up once in as many steps as there are cells. */
        private void spreadOthers(int end) {
            int cells = cells();
            int step = (cells >> 1) + (cells >> 3) + 3;
            int symbol = -1;
            int left = 0;
            int cell = 0;
            for (int k = 0; k < cells; k++) {
                if (cell < end && hasCell(cell)) {
                    while (left <= 0 && symbol < SYMBOLS - 1) {
                        symbol++;
                        left = points[symbol];
                    }
                    symbols[cell] = symbol;
                    left--;
                }
                cell = (cell + step) & (cells - 1);
            }
        }

        private void startNumbers() {
            int first = 0;
            for (int s = 0; s < SYMBOLS; s++) {
                firstOfSymbol[s] = first;
                nextNumber[s] = weightOf(s);
                first += weightOf(s);
            }
        }

        private void numberCells() {
            for (int cell = 0; cell < cells() && cell < MOST_CELLS; cell++) {
                int symbol = symbols[cell];
                if (isSymbol(symbol)) {
                    giveNumber(cell, symbol, nextNumber[symbol]);
                    nextNumber[symbol]++;
                }
            }
        }

        private void giveNumber(int cell, int symbol, int number) {
            int slot = slotOf(symbol, number);
            if (hasCell(cell) && hasCell(slot)) {
                cellsBySymbol[slot] = cell;
                bits[cell] = order - exponent(number);
                bases[cell] = (number << bits[cell]) - cells();
            }
        }
    }

    /** The rule by which counts make points. */
    private static final class CountsRule {
        private final int[] cut = new int[SYMBOLS];
        private final int[] ranked = new int[SYMBOLS];
        private int rankedLength;

        /** Says false when all counts are 0, or more are above 0 than the order has points. */
        boolean makePoints(int[] counts, int order, int[] points) {
            int total = 0;
            int used = 0;
            for (int s = 0; s < SYMBOLS; s++) {
                total += counts[s];
                used += counts[s] > 0 ? 1 : 0;
            }
            if (total <= 0 || used > 1 << order) {
                return false;
            }
            int together = 0;
            for (int s = 0; s < SYMBOLS; s++) {
                points[s] = firstPoints(s, counts[s] << order, total);
                together += weight(points[s]);
            }
            rankByCut(points);
            giveMissing(points, (1 << order) - together);
            takeExcess(points, together - (1 << order));
            return true;
        }

        private int firstPoints(int symbol, int scaled, int total) {
            if (scaled <= 0 || total <= 0) {
                return 0;
            }
            cut[symbol] = scaled % total;
            return scaled < total ? -1 : scaled / total;
        }

        /** Ranks the symbols of 1 or more points by insertion, which leaves the lower symbol first of two with the same cut. */
        private void rankByCut(int[] points) {
            rankedLength = 0;
            for (int s = 0; s < SYMBOLS; s++) {
                if (points[s] > 0) {
                    int i = rankedLength;
                    while (i > 0 && cut[ranked[i - 1]] < cut[s]) {
                        ranked[i] = ranked[i - 1];
                        i--;
                    }
                    ranked[i] = s;
                    rankedLength++;
                }
            }
        }

        private void giveMissing(int[] points, int missing) {
            int i = 0;
            for (int given = 0; given < missing && rankedLength > 0; given++) {
                points[ranked[i]]++;
                i = i + 1 < rankedLength ? i + 1 : 0;
            }
        }

        private void takeExcess(int[] points, int excess) {
            for (int taken = 0; taken < excess; taken++) {
                int most = 0;
                for (int s = 1; s < SYMBOLS; s++) {
                    if (points[s] > points[most]) {
                        most = s;
                    }
                }
                points[most]--;
            }
        }
    }

    /** How the numbers that tell points are written, when lack is what the weights lack of the whole. */
    private static final class NumberForm {
        /** How many bits a short number takes; a long one takes one more. */
        static int shortBits(int lack) {
            return exponent(lack + 1);
        }

        /** The document's t: numbers from it on are written with firstLong added. */
        static int firstShifted(int lack) {
            return 1 << shortBits(lack);
        }

        /** The document's m: numbers from it on are long. */
        static int firstLong(int lack) {
            return 2 * firstShifted(lack) - 2 - lack;
        }
    }

    /** Writes a share. */
    private static final class ShareWriter {
        static void putShare(Share share, Row row) {
            row.empty();
            row.putBits(share.order() - LOWEST_ORDER, ORDER_BITS);
            int lack = share.cells();
            int next = 0;
            for (int symbol = 0; symbol < SYMBOLS && lack > 0; symbol++) {
                if (symbol == next) {
                    int points = share.pointsOf(symbol);
                    putNumber(points + 1, lack, row);
                    lack -= weight(points);
                    next = points == 0 ? putZeros(share, symbol + 1, row) : symbol + 1;
                }
            }
            row.closeBits();
        }

        private static void putNumber(int v, int lack, Row row) {
            int firstLong = NumberForm.firstLong(lack);
            if (v < firstLong) {
                row.putBits(v, NumberForm.shortBits(lack));
            } else {
                row.putBits(v < NumberForm.firstShifted(lack) ? v : v + firstLong, NumberForm.shortBits(lack) + 1);
            }
        }

        /** Tells how many symbols from one on have 0 points; the symbol behind them. */
        private static int putZeros(Share share, int from, Row row) {
            int behind = from;
            while (behind < SYMBOLS && share.pointsOf(behind) == 0) {
                behind++;
            }
            int zeros = behind - from;
            while (zeros >= 3) {
                row.putBits(3, ZEROS_BITS);
                zeros -= 3;
            }
            row.putBits(zeros, ZEROS_BITS);
            return behind;
        }
    }

    /** Reads a written share. */
    private static final class ShareReader {
        /** Fills points; the order, or -1, -2 or -3 as promise 12 has them. */
        static int takeShare(Row row, int most, int last, int[] points) {
            if (!row.hasBits(ORDER_BITS)) {
                return -3;
            }
            int order = LOWEST_ORDER + row.takeBits(ORDER_BITS);
            if (order > most) {
                return -1;
            }
            Arrays.fill(points, 0);
            int lack = 1 << order;
            int next = 0;
            for (int symbol = 0; symbol <= last && symbol < points.length && next >= 0; symbol++) {
                if (symbol == next) {
                    int v = takeNumber(row, lack);
                    if (v < 0) {
                        return -3;
                    }
                    points[symbol] = v - 1;
                    lack -= weight(v - 1);
                    if (lack <= 0) {
                        return order;
                    }
                    next = v == 1 ? behindZeros(row, symbol + 1, last) : symbol + 1;
                }
            }
            // Either the row ended in telling zeros, or last has its points and something lacks.
            return next < 0 ? -3 : -2;
        }

        /** The number of a symbol, or -1 if the row ends before it does. */
        private static int takeNumber(Row row, int lack) {
            int n = NumberForm.shortBits(lack);
            int firstLong = NumberForm.firstLong(lack);
            if (!row.hasBits(n)) {
                return -1;
            }
            if (row.nextBits(n) < firstLong) {
                return row.takeBits(n);
            }
            if (!row.hasBits(n + 1)) {
                return -1;
            }
            int v = row.takeBits(n + 1);
            return v < NumberForm.firstShifted(lack) ? v : v - firstLong;
        }

        /**
         * The symbol behind those that are said to have 0 points, or -1 if the row ends. Nothing is read once
         * last has its points: something lacks then, and that comes before the row's end.
         */
        private static int behindZeros(Row row, int from, int last) {
            int symbol = from;
            while (symbol <= last) {
                if (!row.hasBits(ZEROS_BITS)) {
                    return -1;
                }
                int zeros = row.takeBits(ZEROS_BITS);
                if (zeros < 3) {
                    return symbol + zeros;
                }
                symbol += 3;
            }
            return symbol;
        }
    }

    /** Turns rows of symbols into bytes and back. */
    private static final class RowCoder {
        static boolean allHaveWeight(Row symbols, int from, Share share) {
            for (int i = from; i < symbols.length(); i++) {
                if (share.weightOf(symbols.byteOrZero(i)) == 0) {
                    return false;
                }
            }
            return true;
        }

        /** Says false when the bytes are more than a row holds. */
        static boolean putRow(Row symbols, int from, Share share, Row to) {
            to.empty();
            int last = symbols.byteOrZero(symbols.length() - 1);
            int state = share.cellOf(last, share.weightOf(last));
            for (int i = symbols.length() - 2; i >= from && !to.isOverfull(); i--) {
                state = putStep(symbols.byteOrZero(i), state, share, to);
            }
            to.putBits(state, share.order());
            to.putBits(1, 1);
            to.closeBits();
            return !to.isOverfull();
        }

        /** Puts the state's lowest bits; the cell of the symbol whose number the bits above them are. */
        private static int putStep(int symbol, int state, Share share, Row to) {
            int whole = state + share.cells();
            int twice = 2 * share.weightOf(symbol);
            int n = 0;
            while (n < share.order() && (whole >> n) >= twice) {
                n++;
            }
            to.putBits(whole & ((1 << n) - 1), n);
            return share.cellOf(symbol, whole >> n);
        }

        /** n, or -3 or -4 as promise 17 has them. */
        static int takeRow(Row bytes, int from, int n, Share share, Row to) {
            to.empty();
            int last = bytes.length() - 1;
            int unread = 8 * (last - from) + exponent(bytes.byteOrZero(last)) - share.order();
            if (unread < 0) {
                return -3;
            }
            int state = bytes.number(from, unread, share.order());
            to.add(share.symbolOf(state));
            for (int i = 1; i < n; i++) {
                int width = share.bitsOf(state);
                unread -= width;
                if (unread < 0) {
                    return -3;
                }
                state = share.baseOf(state) + bytes.number(from, unread, width);
                to.add(share.symbolOf(state));
            }
            return unread > 0 ? -4 : n;
        }
    }
}

import java.util.ArrayList;
import java.util.Arrays;
import java.util.List;
import java.util.Random;

/** Runs of calls on the class and on a slow model that follows the document's words; the runs are the same each time. */
public final class ModelTest extends Checks {
    private static final int RUNS = 5000;
    /** As many calls as one step of a run and the look at the state behind the last one take at most. */
    private static final int CALLS_KEPT = 240;

    private final Random random;
    private final Coder coder = new Coder();
    private final Model model = new Model();
    private int alphabet;

    private ModelTest(int run) {
        sentence("run " + run);
        random = new Random(run);
        alphabet = new int[] {1, 2, 3, 5, 12, 40, 256}[random.nextInt(7)];
    }

    public static void main(String[] args) {
        for (int run = 0; run < RUNS && noneWrong(); run++) {
            new ModelTest(run).calls();
        }
        end();
    }

    private void calls() {
        while (coder.callsLeft() > CALLS_KEPT && noneWrong()) {
            oneCall();
        }
        compareState();
    }

    private void oneCall() {
        int kind = random.nextInt(46);
        if (kind >= 40) {
            thereAndBack();
        } else if (kind < 6) {
            write();
        } else if (kind < 8) {
            coder.turn();
            model.turn();
        } else if (kind < 9) {
            if (random.nextInt(3) == 0) {
                coder.clear();
                model.clear();
            }
        } else if (kind < 12) {
            int p = random.nextInt(3) == 0 ? 0 : random.nextInt(model.in.size() + 3) - 1;
            due("place " + p, coder.place(p), model.place(p));
            due("at", coder.at(), model.place);
        } else if (kind < 15) {
            count();
        } else if (kind < 17) {
            due("countAll", coder.countAll(), model.countAll());
        } else if (kind < 20) {
            int order = random.nextInt(20) == 0 ? random.nextInt(40) - 10 : 5 + random.nextInt(8);
            due("share " + order, coder.share(order), model.share(order));
        } else if (kind < 23) {
            justSome();
        } else if (kind < 26) {
            due("describe", coder.describe(), model.describe());
            compareOut();
        } else if (kind < 30) {
            read();
        } else if (kind < 34) {
            due("encode", coder.encode(), model.encode());
            compareOut();
        } else if (kind < 38) {
            int n = random.nextInt(30) == 0 ? random.nextInt(6010) - 3 : 1 + random.nextInt(40);
            if (random.nextInt(2) == 0 && model.lastCoded > 0) {
                n = model.lastCoded;
            }
            due("decode " + n, coder.decode(n), model.decode(n));
            compareOut();
        } else {
            ask();
        }
    }

    private void write() {
        int n = random.nextInt(30) == 0 ? random.nextInt(30) - 10 : 1 + random.nextInt(8);
        long bytes = random.nextLong();
        if (random.nextInt(4) != 0) {
            bytes = 0;
            for (int i = 0; i < 8; i++) {
                bytes = bytes << 8 | Math.min(random.nextInt(alphabet), random.nextInt(alphabet));
            }
        }
        due("write " + bytes + " " + n, coder.write(bytes, n), model.write(bytes, n));
    }

    private void count() {
        int symbol = random.nextInt(10) == 0 ? random.nextInt(300) - 20 : random.nextInt(alphabet);
        int[] counts = {0, 1, 65535, 65536, -1, random.nextInt(65536), random.nextInt(40), random.nextInt(9)};
        int c = counts[random.nextInt(counts.length)];
        due("count " + symbol + " " + c, coder.count(symbol, c), model.count(symbol, c));
    }

    /** Makes counts that just fit an order, most times. */
    private void justSome() {
        int order = 5 + random.nextInt(8);
        int left = 1 << order;
        int place = model.place;
        int end = model.in.size();
        due("place " + end, coder.place(end), model.place(end));
        due("countAll", coder.countAll(), model.countAll());
        due("place " + place, coder.place(place), model.place(place));
        for (int i = 0; i < 10 && left > 1; i++) {
            int symbol = random.nextInt(alphabet);
            if (model.counts[symbol] == 0) {
                boolean single = random.nextInt(3) == 0;
                int points = single ? 1 : 1 + random.nextInt(left - 1);
                setCount(symbol, single ? 65535 : points);
                left -= points;
            }
        }
        for (int s = 0; s < 256 && left > 0; s++) {
            if (model.counts[s] == 0) {
                setCount(s, left);
                left = 0;
            }
        }
        order += random.nextInt(20) == 0 ? 1 : 0;
        due("just " + order, coder.just(order), model.just(order));
    }

    private void setCount(int symbol, int c) {
        due("count", coder.count(symbol, c), model.count(symbol, c));
    }

    private void read() {
        int most = random.nextInt(20) == 0 ? random.nextInt(30) - 10 : 12 - Math.max(0, random.nextInt(10) - 2);
        int last = 255;
        int which = random.nextInt(10);
        if (which < 4) {
            last = random.nextInt(12);
        } else if (which < 5) {
            last = random.nextInt(300) - 20;
        } else if (which < 8 && model.points != null) {
            last = model.last() + random.nextInt(3) - 1;
        }
        due("read " + most + " " + last, coder.read(most, last), model.read(most, last));
        due("at", coder.at(), model.place);
    }

    /** Codes what is in IN by its own counts, and reads it back whole, or one symbol short or long. */
    private void thereAndBack() {
        if (random.nextInt(3) != 0) {
            due("countAll", coder.countAll(), model.countAll());
            int order = 5 + random.nextInt(8);
            due("share " + order, coder.share(order), model.share(order));
        }
        int coded = model.encode();
        due("encode", coder.encode(), coded);
        compareOut();
        if (coded > 0) {
            coder.turn();
            model.turn();
            int n = model.lastCoded + Math.max(-1, random.nextInt(7) - 5);
            due("decode " + n, coder.decode(n), model.decode(n));
            compareOut();
            if (random.nextInt(2) == 0) {
                coder.turn();
                model.turn();
            }
        }
    }

    private void ask() {
        int what = random.nextInt(5) - 1;
        due("about " + what, coder.about(what), model.about(what));
        int symbol = random.nextInt(300) - 20;
        due("points " + symbol, coder.points(symbol), model.points(symbol));
        int k = random.nextInt(1 << (3 + random.nextInt(11))) - 2;
        due("cell " + k + " " + what, coder.cell(k, what), model.cell(k, what));
    }

    private void compareOut() {
        int size = model.out.size();
        due("size", coder.size(), size);
        for (int k = -1; k <= Math.min(size, 8); k++) {
            compareByte(k);
        }
        for (int i = 0; i < 6; i++) {
            compareByte(random.nextInt(size + 1));
            compareByte(size - i);
        }
    }

    private void compareByte(int k) {
        due("byteAt " + k, coder.byteAt(k), model.byteAt(k));
    }

    private void compareState() {
        compareOut();
        due("at", coder.at(), model.place);
        for (int i = 0; i < 30; i++) {
            int s = random.nextInt(alphabet);
            due("points " + s, coder.points(s), model.points(s));
        }
        int cells = 1 << Math.max(model.about(0), 5);
        for (int i = 0; i < 30; i++) {
            int k = random.nextInt(cells);
            for (int what = 0; what < 3; what++) {
                due("cell " + k + " " + what, coder.cell(k, what), model.cell(k, what));
            }
        }
    }

    /** The document in its own words, without regard for speed. */
    private static final class Model {
        List<Integer> in = new ArrayList<>();
        List<Integer> out = new ArrayList<>();
        int place = 0;
        int[] counts = new int[256];
        int[] points = null;
        int order;
        int lastCoded = 0;
        int[] symbolOfCell;
        int[] numberOfCell;

        boolean write(long bytes, int n) {
            if (n < 1 || n > 8 || in.size() + n > 6000) {
                return false;
            }
            for (int i = 0; i < n; i++) {
                in.add((int) (bytes >>> 8 * (n - 1 - i)) & 0xFF);
            }
            return true;
        }

        void turn() {
            in = new ArrayList<>(out);
            place = 0;
        }

        void clear() {
            in.clear();
            place = 0;
            counts = new int[256];
        }

        boolean place(int p) {
            boolean fine = 0 <= p && p <= in.size();
            place = fine ? p : place;
            return fine;
        }

        boolean count(int symbol, int c) {
            if (symbol < 0 || symbol > 255 || c < 0 || c > 65535) {
                return false;
            }
            counts[symbol] = c;
            return true;
        }

        int countAll() {
            counts = new int[256];
            for (int b : rest()) {
                counts[b]++;
            }
            return rest().size();
        }

        List<Integer> rest() {
            return in.subList(place, in.size());
        }

        boolean share(int newOrder) {
            long total = Arrays.stream(counts).asLongStream().sum();
            long used = Arrays.stream(counts).filter(c -> c > 0).count();
            if (newOrder < 5 || newOrder > 12 || total == 0 || used > 1L << newOrder) {
                return false;
            }
            int[] made = new int[256];
            List<Integer> takers = new ArrayList<>();
            for (int s = 0; s < 256; s++) {
                long scaled = (long) counts[s] << newOrder;
                made[s] = scaled == 0 ? 0 : scaled < total ? -1 : (int) (scaled / total);
                if (made[s] >= 1) {
                    takers.add(s);
                }
            }
            takers.sort((a, b) -> {
                long cutA = ((long) counts[a] << newOrder) % total;
                long cutB = ((long) counts[b] << newOrder) % total;
                return cutA != cutB ? Long.compare(cutB, cutA) : Integer.compare(a, b);
            });
            for (int i = 0; together(made) < 1 << newOrder; i++) {
                made[takers.get(i % takers.size())]++;
            }
            while (together(made) > 1 << newOrder) {
                int most = Arrays.stream(made).max().getAsInt();
                int s = 0;
                while (made[s] != most) {
                    s++;
                }
                made[s]--;
            }
            become(newOrder, made);
            return true;
        }

        boolean just(int newOrder) {
            int[] made = Arrays.stream(counts).map(c -> c == 65535 ? -1 : c).toArray();
            if (newOrder < 5 || newOrder > 12 || together(made) != 1 << newOrder) {
                return false;
            }
            become(newOrder, made);
            return true;
        }

        static int together(int[] points) {
            return Arrays.stream(points).map(Math::abs).sum();
        }

        void become(int newOrder, int[] newPoints) {
            order = newOrder;
            points = newPoints;
            int cells = 1 << order;
            symbolOfCell = new int[cells];
            Arrays.fill(symbolOfCell, -1);
            for (int s = 0; s < 256; s++) {
                if (points[s] == -1) {
                    int k = cells - 1;
                    while (symbolOfCell[k] != -1) {
                        k--;
                    }
                    symbolOfCell[k] = s;
                }
            }
            int step = (1 << order - 1) + (1 << order - 3) + 3;
            int cell = 0;
            for (int s = 0; s < 256; s++) {
                for (int i = 0; i < points[s]; i++) {
                    while (symbolOfCell[cell] != -1) {
                        cell = (cell + step) % cells;
                    }
                    symbolOfCell[cell] = s;
                }
            }
            numberOfCell = new int[cells];
            for (int s = 0; s < 256; s++) {
                int number = Math.abs(points[s]);
                for (int k = 0; k < cells; k++) {
                    if (symbolOfCell[k] == s) {
                        numberOfCell[k] = number++;
                    }
                }
            }
        }

        int bitsOfCell(int k) {
            int power = 0;
            while (1 << power + 1 <= numberOfCell[k]) {
                power++;
            }
            return order - power;
        }

        int baseOfCell(int k) {
            return numberOfCell[k] * (1 << bitsOfCell(k)) - (1 << order);
        }

        static String low(int number, int n) {
            String bits = "";
            for (int i = 0; i < n; i++) {
                bits += number >> i & 1;
            }
            return bits;
        }

        static String numberForm(int v, int lack) {
            int t = 1;
            int n = 0;
            while (2 * t <= lack + 1) {
                t *= 2;
                n++;
            }
            int m = 2 * t - 2 - lack;
            return v < m ? low(v, n) : low(v < t ? v : v + m, n + 1);
        }

        static List<Integer> bytes(String bits) {
            List<Integer> bytes = new ArrayList<>();
            for (int i = 0; i < bits.length(); i += 8) {
                String eight = (bits + "0000000").substring(i, i + 8);
                bytes.add(Integer.parseInt(new StringBuilder(eight).reverse().toString(), 2));
            }
            return bytes;
        }

        String restBits() {
            StringBuilder bits = new StringBuilder();
            for (int b : rest()) {
                bits.append(low(b, 8));
            }
            return bits.toString();
        }

        int describe() {
            if (points == null) {
                return -1;
            }
            String bits = low(order - 5, 4);
            int lack = 1 << order;
            for (int s = 0; lack > 0; s++) {
                bits += numberForm(points[s] + 1, lack);
                lack -= Math.abs(points[s]);
                if (points[s] == 0) {
                    int zeros = 0;
                    while (points[s + 1 + zeros] == 0) {
                        zeros++;
                    }
                    bits += "11".repeat(zeros / 3) + low(zeros % 3, 2);
                    s += zeros;
                }
            }
            out = bytes(bits);
            return out.size();
        }

        int read(int most, int last) {
            if (most < 5 || most > 12 || last < 0 || last > 255) {
                return -4;
            }
            String bits = restBits();
            if (bits.length() < 4) {
                return -3;
            }
            int newOrder = 5 + Integer.parseInt(new StringBuilder(bits.substring(0, 4)).reverse().toString(), 2);
            if (newOrder > most) {
                return -1;
            }
            int at = 4;
            int[] made = new int[256];
            int lack = 1 << newOrder;
            for (int s = 0; lack > 0; s++) {
                int v = 0;
                while (v <= lack + 1 && !bits.startsWith(numberForm(v, lack), at)) {
                    v++;
                }
                if (v > lack + 1) {
                    return -3;
                }
                at += numberForm(v, lack).length();
                made[s] = v - 1;
                lack -= Math.abs(v - 1);
                if (lack > 0 && s == last) {
                    return -2;
                }
                boolean on = v == 1;
                while (on) {
                    if (at + 2 > bits.length()) {
                        return -3;
                    }
                    int zeros = List.of("00", "10", "01", "11").indexOf(bits.substring(at, at + 2));
                    at += 2;
                    s += zeros;
                    on = zeros == 3;
                    if (s >= last) {
                        return -2;
                    }
                }
            }
            become(newOrder, made);
            place += (at + 7) / 8;
            return order;
        }

        int last() {
            int last = -1;
            for (int s = 0; s < 256; s++) {
                last = points[s] != 0 ? s : last;
            }
            return last;
        }

        int about(int what) {
            return points == null ? -1 : what == 0 ? order : what == 1 ? last() : -1;
        }

        int points(int symbol) {
            return points == null || symbol < 0 || symbol > 255 ? -2 : points[symbol];
        }

        int cell(int k, int what) {
            if (points == null || k < 0 || k >= 1 << order || what < 0 || what > 2) {
                return -1;
            }
            return what == 0 ? symbolOfCell[k] : what == 1 ? bitsOfCell(k) : baseOfCell(k);
        }

        int encode() {
            if (points == null) {
                return -1;
            }
            List<Integer> row = rest();
            if (row.isEmpty()) {
                return -2;
            }
            for (int s : row) {
                if (points[s] == 0) {
                    return -3;
                }
            }
            StringBuilder bits = new StringBuilder();
            int state = 0;
            while (symbolOfCell[state] != row.get(row.size() - 1)) {
                state++;
            }
            for (int i = row.size() - 2; i >= 0; i--) {
                int k = 0;
                while (symbolOfCell[k] != row.get(i) || state < baseOfCell(k)
                        || state >= baseOfCell(k) + (1 << bitsOfCell(k))) {
                    k++;
                }
                bits.append(low(state - baseOfCell(k), bitsOfCell(k)));
                state = k;
            }
            bits.append(low(state, order)).append("1");
            if (bits.length() > 48000) {
                return -4;
            }
            lastCoded = row.size();
            out = bytes(bits.toString());
            return out.size();
        }

        int decode(int n) {
            if (points == null || n < 1 || n > 6000) {
                return -1;
            }
            String bits = restBits();
            int end = bits.lastIndexOf('1');
            if (bits.isEmpty() || end < bits.length() - 8) {
                return -2;
            }
            // The bits below the END, the highest one first.
            String below = new StringBuilder(bits.substring(0, end)).reverse().toString();
            List<Integer> row = new ArrayList<>();
            int base = 0;
            int width = order;
            int at = 0;
            for (int i = 0; i < n; i++) {
                if (at + width > below.length()) {
                    return -3;
                }
                int state = base + Integer.parseInt("0" + below.substring(at, at + width), 2);
                at += width;
                row.add(symbolOfCell[state]);
                base = baseOfCell(state);
                width = bitsOfCell(state);
            }
            if (at < below.length()) {
                return -4;
            }
            out = row;
            return n;
        }

        int byteAt(int k) {
            return k < 0 || k >= out.size() ? -1 : out.get(k);
        }
    }
}

/** Calls that show what an object holds; each of these takes less than 320 of its 512 calls. */
final class Later {
    private Later() {
    }

    static void outAndPlace(Coder x) {
        x.at();
        int size = x.size();
        for (int k = -1; k <= size && k < 200; k++) {
            x.byteAt(k);
        }
        for (int k = size - 50; k <= size; k++) {
            x.byteAt(k);
        }
    }

    static void points(Coder x) {
        x.about(0);
        x.about(1);
        for (int s = -1; s <= 256; s++) {
            x.points(s);
        }
    }

    static void cells(Coder x) {
        int cells = 1 << Math.max(x.about(0), 5);
        for (int i = 0; i < 96; i++) {
            for (int what = 0; what < 3; what++) {
                x.cell(i * cells / 96, what);
            }
        }
    }

    /** Writing and reading rows: what comes of the share, IN and PLACE. */
    static void coding(Coder x) {
        x.describe();
        ends(x);
        x.encode();
        ends(x);
        for (int n = 1; n < 6; n++) {
            x.decode(n);
            ends(x);
        }
        x.turn();
        x.decode(3);
        ends(x);
    }

    static void reading(Coder x) {
        x.at();
        x.read(12, 255);
        x.at();
        x.about(0);
        x.encode();
        ends(x);
        x.turn();
        x.countAll();
        x.share(12);
        for (int s = 0; s < 256; s++) {
            x.points(s);
        }
    }

    /** A share by the counts comes first, as one that is refused might itself spoil them. */
    static void counts(Coder x) {
        x.share(12);
        for (int s = 0; s < 256; s++) {
            x.points(s);
        }
        for (int order = 5; order <= 12; order++) {
            x.share(order);
            x.about(0);
            x.just(order);
            x.about(0);
        }
    }

    static void in(Coder x) {
        x.countAll();
        for (int s = 0; s < 256; s++) {
            x.count(s, 65535);
        }
        x.just(8);
        x.encode();
        ends(x);
        // A row that is as long as a row may be has one byte too many when it is coded.
        x.place(1);
        x.encode();
        ends(x);
        x.inLength();
    }

    private static void ends(Coder x) {
        int size = x.size();
        for (int k = 0; k < 8; k++) {
            x.byteAt(k);
            x.byteAt(size - 1 - k);
        }
    }
}

/** Promises 9 to 16 and Terms II: bytes, BINS, numbers and BOXES in ROWS. */
public final class RowTest {
    private static final String[] WIDENS = {"0", "134567", "24567", "34567", "4567", "567", "67", "7"};

    public static void main(String[] args) {
        bytes();
        bins();
        lengths();
        widening();
        made();
        told();
        refusalOrder();
        boxes();
        puts();
        Check.end("RowTest");
    }

    private static boolean widens(int from, int to) {
        return WIDENS[from].indexOf('0' + to) >= 0;
    }

    private static void bytes() {
        GuestCalls x = Check.told("line 100;fill 99 1 2;");
        Check.due("byteAt(-1)", x.byteAt(-1), -1);
        Check.due("byteAt(256)", x.byteAt(256), -1);
        Check.due("byteAt(min)", x.byteAt(Integer.MIN_VALUE), -1);
        Check.bytes(x, 98, 0, 1, 2, 0);
        Check.due(x, "poke(99)", x.poke(99, -1), true, 0);
        Check.due("byteAt(99)", x.byteAt(99), 255);
        Check.due(x, "poke(100)", x.poke(100, 7), false, 5);
        Check.due("byteAt(100)", x.byteAt(100), 2);
        Check.due(x, "poke(-1)", x.poke(-1, 7), false, 5);
        Check.due(x, "poke(min)", x.poke(Integer.MIN_VALUE, 7), false, 5);
        Check.due(x, "poke(max)", x.poke(Integer.MAX_VALUE, 7), false, 5);
        Check.due(x, "poke(0)", x.poke(0, 0x1234), true, 0);
        Check.due("byteAt(0)", x.byteAt(0), 0x34);
    }

    private static void bins() {
        GuestCalls x = new GuestCalls();
        for (int sort = 0; sort < 10; sort++) {
            Check.due("bin", x.bin(3, sort, 40), true);
            Check.due("length", x.length(3), 40);
            Check.due("bin", x.bin(3, sort, 41), false);
            Check.due("bin", x.bin(3, sort, -1), false);
            Check.due("length stays", x.length(3), 40);
            Check.due("bin", x.bin(3, sort, 0), true);
            Check.due("length", x.length(3), 0);
        }
        Check.due("bin(-1)", x.bin(-1, 0, 0), false);
        Check.due("bin(8)", x.bin(8, 0, 0), false);
        Check.due("sort -1", x.bin(0, -1, 0), false);
        Check.due("sort 12", x.bin(0, 12, 0), false);
        Check.due("thing", x.bin(3, 10, 1000), true);
        Check.due(x, "length of the thing", x.length(3), -1, 2);
        Check.due("nothing", x.bin(3, 11, Integer.MIN_VALUE), true);
        Check.due(x, "length of nothing", x.length(3), -1, 3);
        x.bin(3, 4, 2);
        x.write(3, 1, 4, 7);
        x.bin(3, 4, 2);
        Check.due("a new row is 0", x.cell(3, 1, 4), 0);
        x.poke(-1, 0);
        x.bin(3, 4, 41);
        Check.due("bin leaves why", x.why(), 5);
    }

    private static void lengths() {
        GuestCalls x = new GuestCalls();
        x.bin(7, 9, 5);
        Check.due(x, "length(7)", x.length(7), 5, 0);
        Check.due(x, "length(6)", x.length(6), -1, 3);
        Check.due(x, "length(8)", x.length(8), -1, 0);
        x.length(6);
        Check.due(x, "length(-1)", x.length(-1), -1, 0);
    }

    private static void widening() {
        for (int sort = 0; sort < 8; sort++) {
            GuestCalls x = new GuestCalls();
            x.bin(0, sort, 1);
            for (int k = 0; k < 8; k++) {
                boolean in = widens(k, sort);
                boolean out = widens(sort, k);
                Check.due(x, "write " + k + " into " + sort, x.write(0, 0, k, 1), in, in ? 0 : 2);
                Check.due(x, "put " + k + " into " + sort, x.put(0, 0, k, 1), in, in ? 0 : 2);
                Check.due(x, "read " + k + " of " + sort, x.cell(0, 0, k), out && holdsOne(sort, k) ? 1 : 0, out ? 0 : 2);
            }
        }
    }

    // Behind writes of all kinds up to k, a row holds 1 as soon as one of them widened.
    private static boolean holdsOne(int sort, int k) {
        for (int from = 0; from <= k; from++) {
            if (widens(from, sort)) {
                return true;
            }
        }
        return false;
    }

    private static void made() {
        GuestCalls x = new GuestCalls();
        long[] all = {0, 1, -1, 127, 128, 255, 256, 32767, 32768, 65535, 65536, -32769, 16777215, 16777216, 16777217,
            16777219, -16777217, 33554431, 2147483647L, 2147483648L, -2147483649L, 9007199254740991L, 9007199254740993L,
            9007199254740995L, 18014398509481983L, -9007199254740993L, Long.MAX_VALUE, Long.MIN_VALUE, Long.MAX_VALUE - 1,
            Long.MIN_VALUE + 1, 0x7FFFFFBFFFFFFFFFL, 0x7FFFFFC000000000L, 0x7FFFFFFFFFFFFDFFL, 0x7FFFFFFFFFFFFE00L};
        for (long v : all) {
            long[] due = {v != 0 ? 1 : 0, (byte) v, (char) v, (short) v, (int) v, v, (long) (float) v, (long) (double) v};
            for (int k = 0; k < 8; k++) {
                x = new GuestCalls();
                x.bin(0, k, 2);
                Check.due("write", x.write(0, 1, k, v), true);
                Check.due("made " + v + " of " + k, x.cell(0, 1, k), due[k]);
                Check.due("boxed " + v + " of " + k, x.box(0, 1, 1), due[k]);
                Check.due("beside", x.cell(0, 0, k), 0);
            }
            x.bin(1, 7, 1);
            x.write(1, 0, 6, v);
            Check.due("float in a double", x.cell(1, 0, 7), (long) (double) (float) v);
            x.write(1, 0, 5, v);
            Check.due("long in a double", x.cell(1, 0, 7), (long) (double) v);
            x.bin(2, 5, 1);
            x.write(2, 0, 5, v);
            Check.due("long as float", x.cell(2, 0, 6), (long) (float) v);
            Check.due("long as double", x.cell(2, 0, 7), (long) (double) v);
            x.bin(2, 6, 1);
            x.write(2, 0, 4, v);
            Check.due("int in a float", x.cell(2, 0, 6), (long) (float) (int) v);
        }
    }

    private static void told() {
        GuestCalls x = Check.told("form f float; form d double;");
        x.bin(0, 6, 1);
        x.bin(1, 7, 1);
        float[] floats = {0f, -0f, 0.5f, -0.5f, 1.99f, -1.99f, 1e10f, -1e18f, 1e19f, -1e19f, Float.MIN_VALUE,
            Float.MIN_NORMAL, Float.MAX_VALUE, Float.POSITIVE_INFINITY, Float.NEGATIVE_INFINITY, 9.223372e18f};
        for (float f : floats) {
            Check.bits(x, 0, Float.floatToRawIntBits(f), 4);
            Check.due(x, "load " + f, x.load(0, 0, 0), 1, 0);
            Check.due("told " + f, x.cell(0, 0, 6), (long) f);
            Check.due("told as double " + f, x.cell(0, 0, 7), (long) (double) f);
            // the double that comes of it, bit by bit
            x.load(0, 0, 1);
            x.store(1, 1, 8);
            for (int i = 0; i < 8; i++) {
                long bits = Double.doubleToRawLongBits(f);
                Check.due("byte " + i + " of " + f, x.byteAt(8 + i), bits >>> 8 * i & 255);
            }
        }
        double[] doubles = {0.0, -0.0, 0.99, -7.9, 4503599627370497.5, 9007199254740993.0, 9.2e18, -9.2e18, 9.3e18,
            -9.3e18, Double.MIN_VALUE, Double.MAX_VALUE, Double.POSITIVE_INFINITY, Double.NEGATIVE_INFINITY};
        for (double d : doubles) {
            Check.bits(x, 0, Double.doubleToRawLongBits(d), 8);
            Check.due(x, "load " + d, x.load(1, 0, 1), 1, 0);
            Check.due("told " + d, x.cell(1, 0, 7), (long) d);
        }
    }

    private static void refusalOrder() {
        GuestCalls x = new GuestCalls();
        x.bin(1, 10, 0);
        x.bin(2, 8, 1);
        x.bin(3, 9, 1);
        x.bin(4, 4, 1);
        int[] bins = {0, 1, 2, 3, 4};
        int[] dues = {3, 2, 2, 2, 1};
        for (int b : bins) {
            Check.due(x, "cell beyond", x.cell(b, 1, 5), 0, dues[b]);
            Check.due(x, "write beyond", x.write(b, 1, 5, 1), false, dues[b]);
            Check.due(x, "cell below", x.cell(b, -1, 0), 0, dues[b]);
            Check.due(x, "write below", x.write(b, Integer.MIN_VALUE, 0, 1), false, dues[b]);
            Check.due(x, "cell of no kind", x.cell(b, 1, 8), 0, 0);
            Check.due(x, "write of no kind", x.write(b, 1, -1, 1), false, 0);
        }
        Check.due(x, "cell within any", x.cell(2, 0, 0), 0, 2);
        Check.due(x, "narrower", x.cell(4, 0, 3), 0, 2);
        Check.due(x, "cell(8)", x.cell(8, 0, 0), 0, 0);
        Check.due(x, "write(-1)", x.write(-1, 0, 0, 0), false, 0);
    }

    private static void boxes() {
        GuestCalls x = new GuestCalls();
        x.bin(0, 8, 12);
        for (int k = 0; k < 8; k++) {
            Check.due(x, "put " + k, x.put(0, k, k, -3), true, 0);
            Check.due(x, "box " + k, x.box(0, k, 0), k, 0);
            Check.due("told " + k, x.box(0, k, 1), k == 0 ? 1 : k == 2 ? 65533 : -3);
        }
        x.put(0, 8, 8, 13);
        x.put(0, 9, 9, 99);
        Check.due(x, "word", x.box(0, 8, 0), 8, 0);
        Check.due(x, "letters", x.box(0, 8, 1), 5, 0);
        Check.due(x, "thing", x.box(0, 9, 0), 9, 0);
        Check.due(x, "thing told", x.box(0, 9, 1), 0, 0);
        Check.due(x, "nothing", x.box(0, 10, 0), -2, 0);
        Check.due(x, "nothing told", x.box(0, 10, 1), 0, 0);
        Check.due(x, "put nothing", x.put(0, 8, 10, 99), true, 0);
        Check.due(x, "nothing", x.box(0, 8, 0), -2, 0);
        Check.due(x, "nothing told", x.box(0, 8, 1), 0, 0);
        Check.due(x, "box beyond", x.box(0, 12, 0), -100000, 1);
        Check.due(x, "box below", x.box(0, -1, 1), -100000, 1);
        x.bin(1, 10, 0);
        Check.due(x, "box of the thing", x.box(1, 50, 0), -100000, 2);
        Check.due(x, "box of nothing", x.box(2, 50, 0), -100000, 3);
        Check.due(x, "box(8)", x.box(8, 0, 0), -100000, 0);
        Check.due(x, "box what", x.box(0, 0, 2), -100000, 0);
        Check.due(x, "box what", x.box(0, 0, -1), -100000, 0);
        x.bin(3, 2, 1);
        x.write(3, 0, 2, -1);
        Check.due(x, "number as a box", x.box(3, 0, 0), 2, 0);
        Check.due(x, "number as a box", x.box(3, 0, 1), 65535, 0);
    }

    private static void puts() {
        GuestCalls x = new GuestCalls();
        x.bin(0, 9, 2);
        x.bin(1, 10, 0);
        x.bin(3, 5, 1);
        x.bin(4, 8, 1);
        for (int k = 0; k <= 10; k++) {
            boolean fits = k == 8 || k == 10;
            Check.due(x, "put into words", x.put(0, 0, k, 7), fits, fits ? 0 : 2);
            Check.due(x, "put beyond words", x.put(0, 2, k, 7), false, 1);
            Check.due(x, "put into the thing", x.put(1, 9, k, 7), false, 2);
            Check.due(x, "put into nothing", x.put(2, 9, k, 7), false, 3);
            Check.due(x, "put beyond a row", x.put(3, 1, k, 7), false, k == 10 ? 2 : 1);
            boolean widens = k < 8 && widens(k, 5);
            Check.due(x, "put into a row", x.put(3, 0, k, 7), widens, widens ? 0 : 2);
            Check.due(x, "put into any", x.put(4, 0, k, 7), true, 0);
            Check.due(x, "put beyond any", x.put(4, -1, k, 7), false, 1);
            Check.due(x, "put(8)", x.put(8, 0, k, 7), false, 0);
        }
        Check.due(x, "no such content", x.put(2, 0, 11, 0), false, 0);
        Check.due(x, "no such content", x.put(2, 0, -1, 0), false, 0);
        for (int v = -9; v < 20; v++) {
            x.put(0, 1, 8, v);
            Check.due("letters of " + v, x.box(0, 1, 1), v & 7);
        }
    }
}

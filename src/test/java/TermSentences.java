/** Terms II, sentence by sentence: KINDS, LAYOUT, BINS, REFUSALS, BOXES, PTR, ARGUMENTS, FRAMES. */
final class TermSentences {
    private static final String II = "II";
    private static final String[] KINDS = {"flag", "byte", "char", "short", "int", "long", "float", "double", "quad", "ptr"};

    private TermSentences() {
    }

    static void all() {
        kinds();
        bytesOfKinds();
        multiples();
        layout();
        size();
        bins();
        sorts();
        atFirst();
        eachToItself();
        widens("BYTE to SHORT, INT, LONG, FLOAT, DOUBLE;", 1, "34567");
        widens("CHAR to INT, LONG, FLOAT, DOUBLE;", 2, "4567");
        widens("SHORT to INT, LONG, FLOAT, DOUBLE;", 3, "4567");
        widens("INT to LONG, FLOAT, DOUBLE;", 4, "567");
        widens("LONG to FLOAT, DOUBLE;", 5, "67");
        widens("FLOAT to DOUBLE", 6, "7");
        widensAsJava();
        madeFlag();
        madeWhole();
        madeNearest();
        toldFlag();
        toldCut();
        place();
        kind();
        nothing();
        noNumber();
        beyondLine();
        over();
        noFrame();
        order();
        why();
        boxes();
        takers();
        putOrder();
        ptr();
        low();
        arguments();
        registersOfArguments();
        twoRegisters();
        ontoTheStack();
        stackOffsets();
        registers();
        stack();
    }

    private static void kinds() {
        Doc.says(II, "KINDS: 0 FLAG, 1 BYTE, 2 CHAR, 3 SHORT, 4 INT, 5 LONG, 6 FLOAT, 7 DOUBLE, 8 QUAD, 9 PTR.");
        for (int k = 0; k < 10; k++) {
            Check.due(KINDS[k], Check.told("form a " + KINDS[k] + ";").layout(0, false, 0, 0), k);
        }
    }

    private static void bytesOfKinds() {
        Doc.says(II, "How many bytes one CELL has on the SMALL machine 1, 1, 2, 2, 4, 4, 4, 8, 8, 4, on the WIDE one"
            + " 1, 1, 2, 2, 4, 8, 4, 8, 8, 8;");
        int[] small = {1, 1, 2, 2, 4, 4, 4, 8, 8, 4};
        int[] wide = {1, 1, 2, 2, 4, 8, 4, 8, 8, 8};
        for (int k = 0; k < 10; k++) {
            GuestCalls x = Check.told("form a " + KINDS[k] + ";");
            Check.due(KINDS[k] + ", SMALL", x.layout(0, false, 0, 3), small[k]);
            Check.due(KINDS[k] + ", WIDE", x.layout(0, true, 0, 3), wide[k]);
            Check.due(KINDS[k] + " grown", x.turn(0, 0, 100, true), wide[k]);
            Check.due(KINDS[k] + " shrunk", x.turn(0, 0, 100, false), small[k]);
        }
    }

    private static void multiples() {
        Doc.says(II, "it lies at a multiple of that (SMALL: of DOUBLE and QUAD of 4).");
        int[] small = {1, 1, 2, 2, 4, 4, 4, 4, 4, 4};
        int[] wide = {1, 1, 2, 2, 4, 8, 4, 8, 8, 8};
        for (int k = 0; k < 10; k++) {
            GuestCalls x = Check.told("form a byte " + KINDS[k] + ";");
            Check.due(KINDS[k] + ", SMALL", x.layout(0, false, 1, 2), small[k]);
            Check.due(KINDS[k] + ", WIDE", x.layout(0, true, 1, 2), wide[k]);
        }
    }

    private static void layout() {
        Doc.says(II, "LAYOUT: MEMBERS in order, each at the least OFFSET behind the one ahead that is such a multiple;");
        GuestCalls x = Check.told("form a byte long byte double byte 3 char byte;form b char byte byte int 2 int;");
        int[] small = {0, 4, 8, 12, 20, 24, 26};
        int[] wide = {0, 8, 16, 24, 32, 36, 38};
        for (int m = 0; m < small.length; m++) {
            Check.due("SMALL " + m, x.layout(0, false, m, 2), small[m]);
            Check.due("WIDE " + m, x.layout(0, true, m, 2), wide[m]);
        }
        int[] close = {0, 2, 3, 4, 12};
        for (int m = 0; m < close.length; m++) {
            Check.due("SMALL, no gap " + m, x.layout(1, false, m, 2), close[m]);
            Check.due("WIDE, no gap " + m, x.layout(1, true, m, 2), close[m]);
        }
    }

    private static void size() {
        Doc.says(II, "the SIZE: the least multiple of the greatest such number that has them all.");
        String[] members = {"flag", "byte 3", "char byte", "byte char", "int byte", "quad byte", "ptr byte", "byte quad char",
            "long 2", "char 3", "quad 4 ptr 4 double 4 long 4 quad 4 ptr 4 double 4 long 4"};
        int[] small = {1, 3, 4, 4, 8, 12, 8, 16, 8, 6, 192};
        int[] wide = {1, 3, 4, 4, 8, 16, 16, 24, 16, 6, 256};
        for (int i = 0; i < members.length; i++) {
            GuestCalls x = Check.told("form a " + members[i] + ";");
            Check.due("SMALL, of " + members[i], x.layout(0, false, -1, 3), small[i]);
            Check.due("WIDE, of " + members[i], x.layout(0, true, -1, 3), wide[i]);
        }
    }

    private static void bins() {
        Doc.says(II, "BINS 0 .. 7 on the wide side hold nothing at first, a ROW of a sort, or the THING, which is no ROW.");
        GuestCalls x = new GuestCalls();
        for (int b = 0; b < 8; b++) {
            Check.due(x, "at first", x.length(b), -1, 3);
            Check.due("a ROW", x.bin(b, b, b), true);
            Check.due(x, "a ROW", x.length(b), b, 0);
            Check.due("the THING", x.bin(b, 10, b), true);
            Check.due(x, "the THING", x.length(b), -1, 2);
        }
        Check.due("BIN -1", x.bin(-1, 0, 1), false);
        Check.due("BIN 8", x.bin(8, 0, 1), false);
    }

    private static void sorts() {
        Doc.says(II, "Sorts: 0 .. 7 of numbers of that KIND (as Java has them: FLAG a boolean, CHAR without sign, LONG 64 bits),"
            + " 8 ANY, 9 WORDS;");
        long[] least = {1, -128, 0x8000, -32768, -2147483648L, Long.MIN_VALUE, Long.MIN_VALUE, Long.MIN_VALUE};
        long[] ones = {1, -1, 65535, -1, -1, -1, -1, -1};
        long[] leastOf = {1, 0x80, 0x8000, 0x8000, 0x80000000L, Long.MIN_VALUE, Long.MIN_VALUE, Long.MIN_VALUE};
        for (int sort = 0; sort < 8; sort++) {
            GuestCalls x = new GuestCalls();
            Check.row(x, 0, sort, -1, leastOf[sort], 0);
            Check.holds(x, 0, ones[sort], least[sort], 0);
            Check.due("its KIND", x.box(0, 0, 0), sort);
        }
        GuestCalls x = new GuestCalls();
        x.bin(0, 8, 1);
        x.bin(1, 9, 1);
        Check.due(x, "ANY", x.put(0, 0, 9, 0), true, 0);
        Check.due(x, "WORDS", x.put(1, 0, 9, 0), false, 2);
        Check.due(x, "WORDS", x.put(1, 0, 8, 0), true, 0);
        Check.due("no sort 12", x.bin(0, 12, 1), false);
        Check.due("no sort -1", x.bin(0, -1, 1), false);
    }

    private static void atFirst() {
        Doc.says(II, "at first 0, in ANY and WORDS nothing.");
        GuestCalls x = new GuestCalls();
        for (int sort = 0; sort < 10; sort++) {
            // a BIN that was full ahead, too
            x.bin(0, 8, 40);
            x.put(0, 39, 8, 7);
            x.bin(0, 7, 40);
            x.write(0, 39, 5, 5);
            x.bin(0, sort, 40);
            for (int i = 0; i < 40; i += 39) {
                Check.due("KIND in sort " + sort, x.box(0, i, 0), sort < 8 ? sort : -2);
                Check.due("0 in sort " + sort, x.box(0, i, 1), 0);
            }
        }
    }

    private static void eachToItself() {
        Doc.says(II, "WIDENS: each KIND (0 .. 7) to itself;");
        for (int k = 0; k < 8; k++) {
            GuestCalls x = new GuestCalls();
            x.bin(0, k, 1);
            Check.due(x, "write", x.write(0, 0, k, 1), true, 0);
            Check.due(x, "cell", x.cell(0, 0, k), 1, 0);
            Check.due(x, "put", x.put(0, 0, k, 1), true, 0);
            if (k != 0) {
                Check.due(x, "FLAG into " + k, x.write(0, 0, 0, 1), false, 2);
                Check.due(x, k + " as FLAG", x.cell(0, 0, 0), 0, 2);
                x.bin(0, 0, 1);
                Check.due(x, k + " into FLAG", x.write(0, 0, k, 1), false, 2);
                Check.due(x, "FLAG as " + k, x.cell(0, 0, k), 0, 2);
            }
        }
    }

    private static void widens(String words, int from, String into) {
        Doc.says(II, words);
        for (int to = 0; to < 8; to++) {
            boolean does = to == from || into.indexOf('0' + to) >= 0;
            GuestCalls x = new GuestCalls();
            x.bin(0, to, 2);
            Check.due(x, "write " + from + " into " + to, x.write(0, 0, from, 3), does, does ? 0 : 2);
            Check.due(x, "put " + from + " into " + to, x.put(0, 1, from, 3), does, does ? 0 : 2);
            Check.holds(x, 0, does ? 3 : 0, does ? 3 : 0);
            Check.row(x, 1, from, 3);
            Check.due(x, "read " + from + " as " + to, x.cell(1, 0, to), does ? 3 : 0, does ? 0 : 2);
        }
    }

    private static void widensAsJava() {
        Doc.says(II, "(as Java does it).");
        long[] ints = {16777217, 16777219, -16777217, 33554431, 2147483647, -2147483648L, 65535, -1, 0};
        for (long v : ints) {
            GuestCalls x = new GuestCalls();
            Check.row(x, 0, 4, v);
            Check.due("INT as LONG " + v, x.cell(0, 0, 5), v);
            Check.due("INT as FLOAT " + v, x.cell(0, 0, 6), (long) (float) (int) v);
            Check.due("INT as DOUBLE " + v, x.cell(0, 0, 7), v);
            x.bin(1, 6, 1);
            x.write(1, 0, 4, v);
            Check.due("INT in FLOAT " + v, x.cell(1, 0, 7), (long) (double) (float) (int) v);
        }
        long[] longs = {9007199254740993L, 9007199254740995L, -9007199254740993L, 0x7FFFFFBFFFFFFFFFL, 0x7FFFFFC000000000L,
            0x7FFFFFFFFFFFFDFFL, 0x7FFFFFFFFFFFFE00L, Long.MAX_VALUE, Long.MIN_VALUE, 1L << 40, (1L << 40) + 1};
        for (long v : longs) {
            GuestCalls x = new GuestCalls();
            Check.row(x, 0, 5, v);
            Check.due("LONG as FLOAT " + v, x.cell(0, 0, 6), (long) (float) v);
            Check.due("LONG as DOUBLE " + v, x.cell(0, 0, 7), (long) (double) v);
            x.bin(1, 7, 1);
            x.write(1, 0, 6, v);
            Check.due("FLOAT in DOUBLE " + v, x.cell(1, 0, 7), (long) (double) (float) v);
        }
        GuestCalls y = Check.told("form f float;form d double;");
        y.bin(0, 7, 1);
        float[] floats = {0f, -0f, 1f, -1.5f, 0.1f, Float.MIN_VALUE, 3 * Float.MIN_VALUE, -Float.MIN_VALUE * 0x7FFFFF,
            Float.MIN_NORMAL, Float.MAX_VALUE, Float.POSITIVE_INFINITY, Float.NEGATIVE_INFINITY};
        for (float f : floats) {
            Check.bits(y, 0, Float.floatToRawIntBits(f), 4);
            y.load(0, 0, 0);
            Check.due(y, "store " + f, y.store(1, 0, 8), 8, 0);
            for (int i = 0; i < 8; i++) {
                Check.due("byte " + i + " of " + f, y.byteAt(8 + i), Double.doubleToRawLongBits(f) >>> 8 * i & 255);
            }
        }
    }

    private static void madeFlag() {
        Doc.says(II, "MADE: a number v made of a KIND: FLAG if it is not 0;");
        for (long v : new long[] {0, 1, -1, 2, 256, 1L << 32, Long.MIN_VALUE}) {
            GuestCalls x = new GuestCalls();
            Check.row(x, 0, 0, v);
            Check.due("FLAG of " + v, x.cell(0, 0, 0), v == 0 ? 0 : 1);
        }
    }

    private static void madeWhole() {
        Doc.says(II, "BYTE, CHAR, SHORT, INT its lowest bits;");
        for (long v : new long[] {127, 128, 255, 256, -1, -129, 32767, 32768, 65535, 65536, -32769, 2147483647L, 2147483648L,
            4294967295L, 4294967296L, -2147483649L, Long.MAX_VALUE, Long.MIN_VALUE, 0x1122334455667788L}) {
            long[] dues = {0, (byte) v, (char) v, (short) v, (int) v};
            for (int k = 1; k < 5; k++) {
                GuestCalls x = new GuestCalls();
                x.bin(0, k, 2);
                x.write(0, 0, k, v);
                x.put(0, 1, k, v);
                Check.holds(x, 0, dues[k], dues[k]);
            }
        }
    }

    private static void madeNearest() {
        Doc.says(II, "FLOAT, DOUBLE the nearest.");
        for (long v : new long[] {0, 1, -1, 8388607, 8388608, 8388609, 16777215, -16777215, 16777216, 16777217, 16777218, 16777219,
            -16777219, 33554431, 4503599627370495L, 4503599627370496L, 4503599627370497L, 9007199254740991L, -9007199254740991L,
            9007199254740992L, 9007199254740993L, 9007199254740995L, -9007199254740993L, 18014398509481983L, Long.MAX_VALUE,
            Long.MIN_VALUE}) {
            GuestCalls x = new GuestCalls();
            Check.row(x, 0, 6, v);
            Check.row(x, 1, 7, v);
            Check.holds(x, 0, (long) (float) v);
            Check.holds(x, 1, (long) (double) v);
        }
        GuestCalls y = Check.told("form f float;form d double;fill 0 9 9 9 9 9 9 9 9 9;");
        Check.row(y, 0, 6, 0);
        Check.row(y, 1, 7, 0);
        y.store(0, 0, 0);
        Check.bytes(y, 0, 0, 0, 0, 0, 9);
        y.store(1, 1, 0);
        Check.bytes(y, 0, 0, 0, 0, 0, 0, 0, 0, 0, 9);
    }

    private static void toldFlag() {
        Doc.says(II, "TOLD: what is there as a long: FLAG 1, 0;");
        GuestCalls x = Check.told("form a flag 4;fill 0 0 1 2 255;");
        x.bin(0, 0, 4);
        Check.due(x, "load", x.load(0, 0, 0), 4, 0);
        int[] dues = {0, 1, 1, 1};
        for (int i = 0; i < 4; i++) {
            Check.due("FLAG " + i, x.cell(0, i, 0), dues[i]);
            Check.due("FLAG " + i, x.box(0, i, 1), dues[i]);
        }
    }

    private static void toldCut() {
        Doc.says(II, "FLOAT, DOUBLE cut towards 0 (beyond the ends the end).");
        GuestCalls x = Check.told("form f float;form d double;");
        x.bin(0, 6, 1);
        x.bin(1, 7, 1);
        float[] floats = {0.99f, -0.99f, 1.99f, -1.99f, -0f, 8388607.5f, 9.2233715e18f, 9.223372e18f, -9.223372e18f, 1e19f,
            -1e19f, Float.MIN_VALUE, Float.MAX_VALUE, -Float.MAX_VALUE, Float.POSITIVE_INFINITY, Float.NEGATIVE_INFINITY};
        for (float f : floats) {
            Check.bits(x, 0, Float.floatToRawIntBits(f), 4);
            x.load(0, 0, 0);
            Check.due("FLOAT " + f, x.cell(0, 0, 6), (long) f);
            Check.due("FLOAT boxed " + f, x.box(0, 0, 1), (long) f);
        }
        double[] doubles = {0.99, -0.99, 1.99, -1.99, -0.0, 4503599627370495.5, 4503599627370496.0, -4503599627370497.5,
            9007199254740993.0, 9.223372036854774e18, 9.223372036854775807e18, -9.223372036854775808e18, 9.3e18, -9.3e18,
            Double.MIN_VALUE, Double.MAX_VALUE, -Double.MAX_VALUE, Double.POSITIVE_INFINITY, Double.NEGATIVE_INFINITY};
        for (double d : doubles) {
            Check.bits(x, 0, Double.doubleToRawLongBits(d), 8);
            x.load(1, 0, 1);
            Check.due("DOUBLE " + d, x.cell(1, 0, 7), (long) d);
            Check.due("DOUBLE boxed " + d, x.box(1, 0, 1), (long) d);
        }
    }

    private static void place() {
        Doc.says(II, "REFUSALS: 1 PLACE: no such CELL of a ROW.");
        GuestCalls x = new GuestCalls();
        Check.row(x, 0, 4, 1, 2);
        x.bin(1, 4, 0);
        for (int i : new int[] {-1, 2, 3, 40, Integer.MAX_VALUE, Integer.MIN_VALUE}) {
            Check.due(x, "cell " + i, x.cell(0, i, 4), 0, 1);
            Check.due(x, "write " + i, x.write(0, i, 4, 1), false, 1);
            Check.due(x, "box " + i, x.box(0, i, 0), -100000, 1);
            Check.due(x, "put " + i, x.put(0, i, 4, 1), false, 1);
        }
        Check.due(x, "the first", x.cell(0, 0, 4), 1, 0);
        Check.due(x, "the last", x.cell(0, 1, 4), 2, 0);
        Check.due(x, "an empty ROW", x.cell(1, 0, 4), 0, 1);
    }

    private static void kind() {
        Doc.says(II, "2 KIND: the BIN holds the THING; a ROW of ANY, of WORDS is read or written by KIND;"
            + " what is there, is written, does not WIDEN.");
        GuestCalls x = new GuestCalls();
        x.bin(0, 10, 0);
        x.bin(1, 8, 1);
        x.bin(2, 9, 1);
        x.put(1, 0, 4, 1);
        Check.row(x, 3, 4, 1);
        for (int b = 0; b < 3; b++) {
            for (int k = 0; k < 8; k++) {
                Check.due(x, "cell of " + b, x.cell(b, 0, k), 0, 2);
                Check.due(x, "write to " + b, x.write(b, 0, k, 1), false, 2);
            }
        }
        Check.due(x, "what is there", x.cell(3, 0, 3), 0, 2);
        Check.due(x, "what is written", x.write(3, 0, 5, 1), false, 2);
        Check.due(x, "what widens", x.cell(3, 0, 5), 1, 0);
        Check.due(x, "what widens", x.write(3, 0, 3, 1), true, 0);
    }

    private static void nothing() {
        Doc.says(II, "3 NOTHING: the BIN holds nothing.");
        GuestCalls x = Check.told("form a byte;");
        x.bin(1, 4, 1);
        x.bin(2, 4, 1);
        x.bin(2, 11, 1);
        for (int b = 0; b < 3; b += 2) {
            Check.due(x, "length", x.length(b), -1, 3);
            Check.due(x, "cell", x.cell(b, 0, 4), 0, 3);
            Check.due(x, "write", x.write(b, 0, 4, 1), false, 3);
            Check.due(x, "box", x.box(b, 0, 0), -100000, 3);
            Check.due(x, "put", x.put(b, 0, 4, 1), false, 3);
            Check.due(x, "copy", x.copy(b, 0, 1, 0, 1, 4), 0, 3);
            Check.due(x, "copy", x.copy(1, 0, b, 0, 1, 4), 0, 3);
            Check.due(x, "paste", x.paste(b, 0, 1, 0, 1), false, 3);
            Check.due(x, "paste", x.paste(1, 0, b, 0, 1), false, 3);
            Check.due(x, "unlike", x.unlike(b, 1), -2, 3);
            Check.due(x, "unlike", x.unlike(1, b), -2, 3);
            Check.due(x, "load", x.load(0, 0, b), 0, 3);
            Check.due(x, "store", x.store(0, b, 0), -1, 3);
        }
    }

    private static void noNumber() {
        Doc.says(II, "4 NO NUMBER: a FLOAT, a DOUBLE whose bits are none (NaN).");
        GuestCalls x = Check.told("form f float;form d double;form i int;form q quad;");
        x.bin(0, 7, 1);
        x.bin(1, 5, 1);
        int[] floats = {0x7F800001, 0x7FC00000, 0x7FFFFFFF, 0xFF800001, 0xFFFFFFFF, 0x7F800000, 0xFF800000, 0x7F7FFFFF, 1};
        for (int f = 0; f < floats.length; f++) {
            Check.bits(x, 0, floats[f], 4);
            Check.due(x, "FLOAT " + f, x.load(0, 0, 0), f < 5 ? 0 : 1, f < 5 ? 4 : 0);
            Check.due(x, "an INT of these bits", x.load(2, 0, 1), 1, 0);
        }
        long[] doubles = {0x7FF0000000000001L, 0x7FF8000000000000L, Long.MAX_VALUE, 0xFFF0000000000001L, -1,
            0x7FF0000000000000L, 0xFFF0000000000000L, 0x7FEFFFFFFFFFFFFFL, 1};
        for (int d = 0; d < doubles.length; d++) {
            Check.bits(x, 0, doubles[d], 8);
            Check.due(x, "DOUBLE " + d, x.load(1, 0, 0), d < 5 ? 0 : 1, d < 5 ? 4 : 0);
            Check.due(x, "a QUAD of these bits", x.load(3, 0, 1), 1, 0);
        }
    }

    private static void beyondLine() {
        Doc.says(II, "5 LINE: bytes below 0, at LINE or beyond (no bytes: never).");
        GuestCalls x = Check.told("line 20;form a int;fill 0 99 0 0 0 0 0 0 0 255 255 255 255 0 0 0 0;");
        x.bin(0, 4, 1);
        for (int address : new int[] {-1, 17, 20, 255, 256, Integer.MAX_VALUE, Integer.MIN_VALUE}) {
            Check.due(x, "load at " + address, x.load(0, address, 0), -1, 5);
            Check.due(x, "store at " + address, x.store(0, 0, address), -1, 5);
            Check.due(x, "turn from " + address, x.turn(0, address, 0, true), -1, 5);
            Check.due(x, "turn to " + address, x.turn(0, 0, address, true), -1, 5);
            Check.due(x, "list at " + address, x.list(address, 1, 0), -1, 5);
            Check.due(x, "a list of none at " + address, x.list(address, 0, 0), 0, 0);
            Check.due(x, "no bytes to " + address, x.move(0, 2, address, true), 0, 0);
        }
        Check.due(x, "poke(-1)", x.poke(-1, 0), false, 5);
        Check.due(x, "poke(20)", x.poke(20, 0), false, 5);
        Check.due(x, "the last bytes", x.load(0, 16, 0), 1, 0);
        Check.due(x, "the first bytes", x.load(0, 0, 0), 1, 0);
    }

    private static void over() {
        Doc.says(II, "6 OVER: a number that does not fit.");
        GuestCalls x = Check.told("form a long;form p ptr;fill 4 255 255 255 255;");
        Check.row(x, 0, 5, 2147483648L);
        Check.due(x, "a LONG", x.store(0, 0, 8), -1, 6);
        Check.due(x, "a PTR", x.store(1, 0, 8), -1, 6);
        Check.due(x, "a LONG, wide", x.turn(0, 1, 16, false), -1, 6);
        Check.due(x, "a PTR, wide", x.turn(1, 1, 16, false), -1, 6);
        Check.due(x, "fewer than 0 bytes", x.list(0, 1, 0), -1, 6);
        Check.due(x, "fewer than 0 bytes", x.move(0, 1, 0, true), -1, 6);
        x.sets(0, 2147483648L);
        Check.due(x, "a REGISTER", x.frame(), -1, 6);
    }

    private static void noFrame() {
        Doc.says(II, "7 NO FRAME.");
        GuestCalls x = new GuestCalls();
        Check.due(x, "returns", x.returns(), -1, 7);
        x.frame();
        Check.due(x, "returns", x.returns(), 0, 0);
        Check.due(x, "returns", x.returns(), -1, 7);
    }

    // Of each of these BINS cell 9 is asked for as what it is not, so that more than one REFUSAL is due.
    private static void order() {
        Doc.says(II, "In this order, of one CELL: 3, 2 (of the THING, ANY, WORDS), 1, 2.");
        GuestCalls x = new GuestCalls();
        x.bin(1, 10, 0);
        x.bin(2, 8, 9);
        x.bin(3, 9, 9);
        x.bin(4, 4, 9);
        int[] dues = {3, 2, 2, 2, 1};
        for (int b = 0; b < 5; b++) {
            for (int i : new int[] {9, -1, Integer.MAX_VALUE}) {
                Check.due(x, "cell " + i + " of " + b, x.cell(b, i, 0), 0, dues[b]);
                Check.due(x, "write " + i + " of " + b, x.write(b, i, 0, 1), false, dues[b]);
            }
        }
        Check.due(x, "there, of another kind", x.cell(4, 8, 0), 0, 2);
        Check.due(x, "there, of another kind", x.write(4, 8, 0, 1), false, 2);
    }

    private static void why() {
        Doc.says(II, "why() tells the REFUSAL of the latest call that says it has such: 0, if there was none.");
        GuestCalls x = new GuestCalls();
        Check.due("no call yet", x.why(), 0);
        x.returns();
        x.length(0);
        Check.due("the latest", x.why(), 3);
        x.count(9);
        x.byteAt(-1);
        Check.due("the latest that has such", x.why(), 3);
        Check.due(x, "none", x.poke(0, 0), true, 0);
    }

    private static void boxes() {
        Doc.says(II, "BOXES: of a KIND 0 .. 7; WORDS: n letters x (n 0 .. 7); the THING; nothing.");
        GuestCalls x = new GuestCalls();
        x.bin(0, 8, 1);
        for (int k = 0; k < 8; k++) {
            x.put(0, 0, k, 1);
            Check.due("KIND", x.box(0, 0, 0), k);
            x.put(0, 0, 8, k);
            Check.due("a WORD", x.box(0, 0, 0), 8);
            Check.due("letters", x.box(0, 0, 1), k);
        }
        x.put(0, 0, 9, 1);
        Check.due("the THING", x.box(0, 0, 0), 9);
        x.put(0, 0, 10, 1);
        Check.due("nothing", x.box(0, 0, 0), -2);
    }

    private static void takers() {
        Doc.says(II, "ANY takes all of these, WORDS takes WORDS and nothing, a ROW of numbers BOXES that WIDEN.");
        String[] into = {"0", "1", "2", "13", "1234", "12345", "123456", "1234567"};
        for (int k = 0; k <= 10; k++) {
            GuestCalls x = new GuestCalls();
            x.bin(0, 8, 1);
            x.bin(1, 9, 1);
            Check.due(x, "ANY takes " + k, x.put(0, 0, k, 1), true, 0);
            boolean isWord = k == 8 || k == 10;
            Check.due(x, "WORDS takes " + k, x.put(1, 0, k, 1), isWord, isWord ? 0 : 2);
            for (int sort = 0; sort < 8; sort++) {
                x.bin(2, sort, 1);
                boolean fits = k < 8 && into[sort].indexOf('0' + k) >= 0;
                Check.due(x, sort + " takes " + k, x.put(2, 0, k, 1), fits, fits ? 0 : 2);
                Check.due("its KIND stays", x.box(2, 0, 0), sort);
                Check.due("what is there", x.box(2, 0, 1), fits ? 1 : 0);
            }
        }
    }

    private static void putOrder() {
        Doc.says(II, "Order there: 3; 2 (the BIN holds the THING; nothing comes into a ROW of numbers); 1;"
            + " 2 (all else, as WORDS, the THING into a ROW of numbers).");
        GuestCalls x = new GuestCalls();
        x.bin(1, 10, 0);
        x.bin(2, 8, 1);
        x.bin(3, 9, 1);
        for (int k = 0; k <= 10; k++) {
            Check.due(x, "into nothing " + k, x.put(0, 9, k, 1), false, 3);
            Check.due(x, "into the THING " + k, x.put(1, 9, k, 1), false, 2);
            Check.due(x, "beyond ANY " + k, x.put(2, 1, k, 1), false, 1);
            Check.due(x, "beyond WORDS " + k, x.put(3, -1, k, 1), false, 1);
            for (int sort = 0; sort < 8; sort++) {
                x.bin(4, sort, 1);
                Check.due(x, k + " beyond " + sort, x.put(4, 1, k, 1), false, k == 10 ? 2 : 1);
                if (k > 7) {
                    Check.due(x, k + " into " + sort, x.put(4, 0, k, 1), false, 2);
                }
            }
        }
        Check.due(x, "a BOX into WORDS", x.put(3, 0, 4, 1), false, 2);
        Check.due(x, "the THING into WORDS", x.put(3, 0, 9, 1), false, 2);
    }

    private static void ptr() {
        Doc.says(II, "PTR: 0 .. 4294967295, on the wide side a LONG.");
        GuestCalls x = Check.told("form a ptr;fill 0 255 255 255 255 1;");
        x.bin(0, 5, 1);
        Check.due(x, "load", x.load(0, 0, 0), 1, 0);
        Check.holds(x, 0, 4294967295L);
        x.bin(1, 7, 1);
        Check.due(x, "a LONG widens to a DOUBLE", x.load(0, 0, 1), 1, 0);
        Check.holds(x, 1, 4294967295L);
        x.bin(2, 4, 1);
        Check.due(x, "a LONG is no INT", x.load(0, 0, 2), 0, 2);
        Check.due(x, "turn", x.turn(0, 0, 16, true), 8, 0);
        Check.bytes(x, 16, 255, 255, 255, 255, 0, 0, 0, 0);
    }

    private static void low() {
        Doc.says(II, "It is LOW if it is 0 .. LINE.");
        for (int line : new int[] {8, 100, 256}) {
            GuestCalls x = Check.told("line " + line + ";form a ptr;");
            x.bin(0, 5, 1);
            for (long v : new long[] {0, 1, line, line + 1, -1, 4294967295L, 4294967296L, Long.MAX_VALUE, Long.MIN_VALUE}) {
                boolean isLow = v >= 0 && v <= line;
                x.write(0, 0, 5, v);
                Check.due(x, "store " + v, x.store(0, 0, 0), isLow ? 4 : -1, isLow ? 0 : 6);
                Check.bits(x, 0, v, 8);
                Check.due(x, "turn " + v, x.turn(0, 0, 0, false), isLow ? 4 : -1, isLow ? 0 : 6);
            }
        }
    }

    private static void passed(GuestCalls x, int form, int c, int register, int offset, int taken) {
        Check.due("register of " + c, x.argument(form, c, 0), register);
        Check.due("offset of " + c, x.argument(form, c, 1), offset);
        Check.due("taken up to " + c, x.argument(form, c, 2), taken);
    }

    private static void arguments() {
        Doc.says(II, "ARGUMENTS of a FORM: each CELL, in order, is one.");
        GuestCalls x = Check.told("form a byte 2 quad byte;");
        passed(x, 0, 0, 0, -2, 1);
        passed(x, 0, 1, 1, -2, 2);
        passed(x, 0, 2, 2, -2, 4);
        passed(x, 0, 3, 4, -2, 5);
        Check.due("a 5th", x.argument(0, 4, 0), -1);
    }

    private static void registersOfArguments() {
        Doc.says(II, "On the SMALL machine: registers 0 .. 5 of 4 bytes:");
        for (String kind : "flag byte char short int long float ptr".split(" ")) {
            GuestCalls x = Check.told("form a " + kind + " 4 " + kind + " 3;");
            for (int c = 0; c < 6; c++) {
                passed(x, 0, c, c, -2, c + 1);
            }
            passed(x, 0, 6, -2, 0, 6);
        }
    }

    private static void twoRegisters() {
        Doc.says(II, "a CELL of 8 bytes takes two, the first of an even number (one may be left out);");
        for (String kind : new String[] {"double", "quad"}) {
            GuestCalls x = Check.told("form a " + kind + " 3;form b int " + kind + " int " + kind + ";form c int 2 " + kind
                + " int 2;form d int 3 " + kind + ";");
            passed(x, 0, 0, 0, -2, 2);
            passed(x, 0, 1, 2, -2, 4);
            passed(x, 0, 2, 4, -2, 6);
            passed(x, 1, 1, 2, -2, 4);
            passed(x, 1, 2, 4, -2, 5);
            passed(x, 2, 2, 2, -2, 4);
            passed(x, 2, 4, 5, -2, 6);
            // register 3 is left out
            passed(x, 3, 2, 2, -2, 3);
            passed(x, 3, 3, 4, -2, 6);
        }
    }

    private static void ontoTheStack() {
        Doc.says(II, "if there are not so many left, it and all behind it lie on the stack,");
        GuestCalls x = Check.told("form a int 4 int quad int;form b quad 3 int;form c quad 4;form d int 4 int 2 byte;");
        passed(x, 0, 4, 4, -2, 5);
        passed(x, 0, 5, -2, 0, 5);
        passed(x, 0, 6, -2, 8, 5);
        passed(x, 1, 3, -2, 0, 6);
        passed(x, 2, 3, -2, 0, 6);
        passed(x, 3, 5, 5, -2, 6);
        passed(x, 3, 6, -2, 0, 6);
    }

    private static void stackOffsets() {
        Doc.says(II, "from offset 0 on, each at the least multiple of 4 (of 8, if it has 8 bytes) behind the one ahead,"
            + " of 4 bytes at least.");
        GuestCalls x = Check.told("form a quad 3 byte 2 char quad flag double 2 int 2;form b quad 4 quad 2 byte;");
        int[] offsets = {0, 4, 8, 16, 24, 32, 40, 48, 52};
        for (int c = 0; c < offsets.length; c++) {
            passed(x, 0, 3 + c, -2, offsets[c], 6);
        }
        passed(x, 1, 3, -2, 0, 6);
        passed(x, 1, 4, -2, 8, 6);
        passed(x, 1, 5, -2, 16, 6);
        passed(x, 1, 6, -2, 24, 6);
    }

    private static void registers() {
        Doc.says(II, "REGISTERS 0 .. 7 on the wide side (LONGS, at first 0).");
        GuestCalls x = new GuestCalls();
        for (int r = 0; r < 8; r++) {
            Check.due("at first", x.register(r), 0);
            x.sets(r, Long.MIN_VALUE + r);
        }
        for (int r = 0; r < 8; r++) {
            Check.due("a LONG", x.register(r), Long.MIN_VALUE + r);
        }
        Check.due("REGISTER 8", x.sets(8, 1), false);
        Check.due("REGISTER -1", x.sets(-1, 1), false);
    }

    private static void stack() {
        Doc.says(II, "STACK: from LINE downward; a FRAME has 36 bytes: REGISTERS 0 .. 7 as INTS of the SMALL machine,"
            + " then how many FRAMES there were ahead, as an INT.");
        for (String big : new String[] {"", "big;"}) {
            GuestCalls x = Check.told("line 110;" + big);
            for (int r = 0; r < 8; r++) {
                x.sets(r, r == 7 ? Integer.MIN_VALUE : 258 * r + 3);
            }
            for (int f = 0; f < 3; f++) {
                int at = 110 - 36 * (f + 1);
                Check.due(x, "frame", x.frame(), at, 0);
                for (int r = 0; r <= 8; r++) {
                    int v = r == 8 ? f : r == 7 ? Integer.MIN_VALUE : 258 * r + 3;
                    for (int i = 0; i < 4; i++) {
                        int shift = big.isEmpty() ? 8 * i : 24 - 8 * i;
                        Check.due("byte " + i + " of " + r, x.byteAt(at + 4 * r + i), v >>> shift & 255);
                    }
                }
            }
            Check.bytes(x, 110, 0);
            Check.due(x, "no room", x.frame(), -1, 5);
        }
    }
}

import java.util.Arrays;

/** Calls of a small machine on a wide one; the promises stand in ../shared/DOC.md. */
public final class GuestCalls {
    public static final int NONE = -1;

    private static final int MOST_TAPE = 2000;
    private static final int MOST_TOKENS = 400;
    private static final int MOST_FORMS = 6;
    private static final int MOST_MEMBERS = 8;
    private static final int MOST_REPEATS = 4;
    private static final int MOST_FORM_CELLS = MOST_MEMBERS * MOST_REPEATS;
    private static final int MOST_FILL = 16;
    private static final int MEMORY_BYTES = 256;
    private static final int BINS = 8;
    private static final int MOST_ROW_CELLS = 40;
    private static final int REGISTERS = 8;
    private static final int FRAME_BYTES = 36;
    private static final int SLOTS = 2;
    private static final int MOST_BUFFERS = 8;
    private static final int BUFFER_BYTES = 8;
    private static final int ARGUMENT_REGISTERS = 6;
    private static final int ELSEWHERE = -2;
    private static final long NO_BOX = NONE - 99999;

    private static final int FLAG = 0;
    private static final int BYTE = 1;
    private static final int CHAR = 2;
    private static final int SHORT = 3;
    private static final int INT = 4;
    private static final int LONG = 5;
    private static final int FLOAT = 6;
    private static final int DOUBLE = 7;
    private static final int QUAD = 8;
    private static final int PTR = 9;

    private static final int ANY_ROW = 8;
    private static final int WORDS_ROW = 9;
    private static final int THING_BIN = 10;
    private static final int EMPTY_BIN = 11;

    private static final int WORD = 8;
    private static final int PUT_NOTHING = 10;
    private static final int BLANK = -2;

    private static final int NO_PLACE = 1;
    private static final int WRONG_KIND = 2;
    private static final int HOLDS_NOTHING = 3;
    private static final int NO_NUMBER = 4;
    private static final int BEYOND_LINE = 5;
    private static final int OVER = 6;
    private static final int NO_FRAME = 7;

    private final byte[] tape = new byte[MOST_TAPE];
    private int taped;
    private final Reader reader = new Reader();
    private Plan plan = new Plan();
    private Plan spare = new Plan();
    private int faultPlace = NONE;

    private final State now = new State();
    private final State[] slots = {new State(), new State()};
    private final boolean[] held = new boolean[SLOTS];

    private int refusal;
    private int refusals;

    private final long[] numbers = new long[MOST_FORM_CELLS];
    private final Buffers buffers = new Buffers();
    private final byte[] moved = new byte[MEMORY_BYTES];

    public GuestCalls() {
    }

    public int feed(int a, int b, int c, int d, int e) {
        if (taped + 20 > MOST_TAPE) {
            return NONE;
        }
        tapeInt(a);
        tapeInt(b);
        tapeInt(c);
        tapeInt(d);
        tapeInt(e);
        return taped;
    }

    private void tapeInt(int four) {
        for (int shift = 24; shift >= 0; shift -= 8) {
            tape[taped] = (byte) (four >>> shift);
            taped++;
        }
    }

    public int back(int n) {
        if (n < 0 || n > taped) {
            return NONE;
        }
        taped -= n;
        return taped;
    }

    public int read() {
        int fault = reader.faultOf(tape, taped, spare);
        taped = 0;
        if (fault != 0) {
            faultPlace = reader.faultPlace;
            return fault;
        }
        // The old plan is kept as the next text's room, so that no call makes a new one.
        Plan told = spare;
        spare = plan;
        plan = told;
        faultPlace = NONE;
        startAnew();
        return 0;
    }

    private void startAnew() {
        now.begin(plan.memory);
        for (int slot = 0; slot < SLOTS; slot++) {
            held[slot] = false;
        }
        refusal = 0;
        refusals = 0;
    }

    public int place() {
        return faultPlace;
    }

    public int why() {
        return refusal;
    }

    // Only the first REFUSAL of a call is told, and the call is counted once.
    private boolean refuses(int found) {
        if (found == 0) {
            return false;
        }
        if (refusal == 0) {
            refusal = found;
            refusals++;
        }
        return true;
    }

    private boolean isForm(int form) {
        return form >= 0 && form < plan.told;
    }

    private static boolean isBin(int b) {
        return b >= 0 && b < BINS;
    }

    private static boolean isNumberKind(int k) {
        return k >= FLAG && k <= DOUBLE;
    }

    public int layout(int form, boolean wide, int m, int what) {
        if (!isForm(form) || what < 0 || what > 3) {
            return NONE;
        }
        Form asked = plan.forms[form];
        Layout laid = wide ? asked.wide : asked.small;
        if (m == NONE) {
            return ofForm(asked, laid, what);
        }
        return m >= 0 && m < asked.members ? ofMember(asked, laid, m, what) : NONE;
    }

    private static int ofForm(Form form, Layout laid, int what) {
        switch (what) {
            case 0: return form.members;
            case 1: return form.cells;
            case 2: return laid.multiple;
            default: return laid.size;
        }
    }

    private static int ofMember(Form form, Layout laid, int m, int what) {
        switch (what) {
            case 0: return form.kinds[m];
            case 1: return form.repeats[m];
            case 2: return laid.offsets[form.firstCells[m]];
            default: return form.repeats[m] * Kinds.bytesOf(form.kinds[m], laid.isWide);
        }
    }

    public int argument(int form, int c, int what) {
        if (!isForm(form) || c < 0 || c >= plan.forms[form].cells) {
            return NONE;
        }
        Arguments passed = plan.forms[form].arguments;
        switch (what) {
            case 0: return passed.registers[c];
            case 1: return passed.offsets[c];
            case 2: return passed.taken[c];
            default: return NONE;
        }
    }

    public int byteAt(int address) {
        return address >= 0 && address < MEMORY_BYTES ? now.memory.bytes[address] & 255 : NONE;
    }

    public boolean poke(int address, int v) {
        refusal = 0;
        if (refuses(now.memory.refusalOf(address, 1))) {
            return false;
        }
        now.memory.bytes[address] = (byte) v;
        return true;
    }

    public boolean bin(int b, int sort, int n) {
        if (!isBin(b) || sort < 0 || sort > EMPTY_BIN) {
            return false;
        }
        boolean isRow = sort < THING_BIN;
        if (isRow && (n < 0 || n > MOST_ROW_CELLS)) {
            return false;
        }
        now.bins[b].begin(sort, isRow ? n : 0);
        return true;
    }

    public int length(int b) {
        refusal = 0;
        if (!isBin(b) || refuses(now.bins[b].rowRefusal())) {
            return NONE;
        }
        return now.bins[b].cells;
    }

    public long cell(int b, int i, int k) {
        refusal = 0;
        if (!isBin(b) || !isNumberKind(k) || refuses(now.bins[b].readRefusal(i, k))) {
            return 0;
        }
        return Kinds.toldOf(now.bins[b].numberAs(i, k), k);
    }

    public boolean write(int b, int i, int k, long v) {
        refusal = 0;
        if (!isBin(b) || !isNumberKind(k) || refuses(now.bins[b].writeRefusal(i, k))) {
            return false;
        }
        now.bins[b].fillCell(i, k, Kinds.made(v, k));
        return true;
    }

    public long box(int b, int i, int what) {
        refusal = 0;
        if (!isBin(b) || what < 0 || what > 1 || refuses(now.bins[b].cellRefusal(i))) {
            return NO_BOX;
        }
        return what == 0 ? now.bins[b].contents[i] : now.bins[b].toldAt(i);
    }

    public boolean put(int b, int i, int k, long v) {
        refusal = 0;
        if (!isBin(b) || k < 0 || k > PUT_NOTHING) {
            return false;
        }
        int content = k == PUT_NOTHING ? BLANK : k;
        if (refuses(now.bins[b].putRefusal(i, content))) {
            return false;
        }
        now.bins[b].fillCell(i, content, boxed(content, v));
        return true;
    }

    private static long boxed(int content, long v) {
        if (isNumberKind(content)) {
            return Kinds.made(v, content);
        }
        return content == WORD ? v & 7 : 0;
    }

    public int copy(int b, int i, int to, int j, int n, int k) {
        refusal = 0;
        if (!isBin(b) || !isBin(to) || n < 0 || n > MOST_ROW_CELLS || !isNumberKind(k)) {
            return NONE;
        }
        Bin from = now.bins[b];
        Bin onto = now.bins[to];
        int copied = 0;
        for (int c = 0; c < n; c++) {
            // A place that wraps round is below 0, and so no place either.
            if (!refuses(from.readRefusal(i + c, k)) && !refuses(onto.writeRefusal(j + c, k))) {
                onto.fillCell(j + c, k, from.numberAs(i + c, k));
                copied++;
            }
        }
        return copied;
    }

    public boolean paste(int b, int i, int to, int j, int n) {
        refusal = 0;
        if (!isBin(b) || !isBin(to)) {
            return false;
        }
        Bin from = now.bins[b];
        Bin onto = now.bins[to];
        if (refuses(onto.pasteRefusal(from)) || refuses(from.spanRefusal(i, n)) || refuses(onto.spanRefusal(j, n))) {
            return false;
        }
        int fitting = onto.sort == WORDS_ROW ? from.wordsFrom(i, n) : n;
        onto.pasteCells(from, i, j, fitting);
        return fitting == n || !refuses(WRONG_KIND);
    }

    public int unlike(int one, int other) {
        refusal = 0;
        if (!isBin(one) || !isBin(other)) {
            return -2;
        }
        Bin first = now.bins[one];
        Bin second = now.bins[other];
        if (refuses(first.rowRefusal()) || refuses(second.rowRefusal())) {
            return -2;
        }
        int both = Math.min(first.cells, second.cells);
        for (int c = 0; c < both; c++) {
            if (!first.isAlike(second, c)) {
                return c;
            }
        }
        return first.cells == second.cells ? NONE : both;
    }

    public int load(int form, int address, int b) {
        refusal = 0;
        if (!isForm(form) || !isBin(b)) {
            return NONE;
        }
        Form loaded = plan.forms[form];
        if (refuses(now.memory.refusalOf(address, loaded.small.size))) {
            return NONE;
        }
        int done = 0;
        for (int c = 0; c < loaded.cells; c++) {
            int kind = loaded.cellKinds[c];
            long bits = now.memory.cellAt(address + loaded.small.offsets[c], kind, false);
            if (loadCell(now.bins[b], c, kind, bits)) {
                done++;
            }
        }
        return done;
    }

    private boolean loadCell(Bin bin, int c, int kind, long bits) {
        int rowKind = Kinds.onRow(kind);
        if (Kinds.isNoNumber(bits, kind) && refuses(NO_NUMBER)) {
            return false;
        }
        if (refuses(bin.writeRefusal(c, rowKind))) {
            return false;
        }
        // A FLAG is set by any byte but 0; all other kinds are their bits already.
        bin.fillCell(c, rowKind, kind == FLAG ? Kinds.made(bits, FLAG) : bits);
        return true;
    }

    public int store(int form, int b, int address) {
        refusal = 0;
        if (!isForm(form) || !isBin(b)) {
            return NONE;
        }
        Form stored = plan.forms[form];
        Bin bin = now.bins[b];
        if (refuses(now.memory.refusalOf(address, stored.small.size))) {
            return NONE;
        }
        for (int c = 0; c < stored.cells; c++) {
            int rowKind = Kinds.onRow(stored.cellKinds[c]);
            if (refuses(bin.readRefusal(c, rowKind))) {
                return NONE;
            }
            numbers[c] = bin.numberAs(c, rowKind);
            if (refuses(now.memory.fitRefusal(stored.cellKinds[c], numbers[c]))) {
                return NONE;
            }
        }
        now.memory.layCells(stored, stored.small, address, numbers);
        return stored.small.size;
    }

    public int turn(int form, int address, int to, boolean grow) {
        refusal = 0;
        if (!isForm(form)) {
            return NONE;
        }
        Form turned = plan.forms[form];
        Layout from = grow ? turned.small : turned.wide;
        Layout onto = grow ? turned.wide : turned.small;
        if (refuses(now.memory.refusalOf(address, from.size)) || refuses(now.memory.refusalOf(to, onto.size))) {
            return NONE;
        }
        for (int c = 0; c < turned.cells; c++) {
            numbers[c] = now.memory.cellAt(address + from.offsets[c], turned.cellKinds[c], from.isWide);
            if (!grow && refuses(now.memory.fitRefusal(turned.cellKinds[c], numbers[c]))) {
                return NONE;
            }
        }
        now.memory.clearBytes(to, onto.size);
        now.memory.layCells(turned, onto, to, numbers);
        return onto.size;
    }

    public int list(int address, int n, int what) {
        refusal = 0;
        if (n < 0 || n > MOST_BUFFERS || what < 0 || what > 2 || !readBuffers(address, n)) {
            return NONE;
        }
        switch (what) {
            case 0: return buffers.total;
            case 1: return buffers.empties;
            default: return buffers.greatest;
        }
    }

    private boolean readBuffers(int address, int n) {
        Memory memory = now.memory;
        buffers.begin();
        if (refuses(memory.refusalOf(address, n * BUFFER_BYTES))) {
            return false;
        }
        for (int i = 0; i < n; i++) {
            int at = address + i * BUFFER_BYTES;
            long start = memory.cellAt(at, PTR, false);
            int size = (int) memory.cellAt(at + 4, INT, false);
            if (refuses(size < 0 ? OVER : memory.refusalOf(start, size))) {
                return false;
            }
            buffers.addBuffer(start, size);
        }
        return true;
    }

    public int move(int address, int n, int at, boolean gather) {
        refusal = 0;
        if (n < 0 || n > MOST_BUFFERS || !readBuffers(address, n)) {
            return NONE;
        }
        if (refuses(now.memory.refusalOf(at, buffers.total))) {
            return NONE;
        }
        // Without bytes, addresses may be none at all.
        if (buffers.total > 0) {
            if (gather) {
                buffers.gatherInto(now.memory.bytes, moved);
                System.arraycopy(moved, 0, now.memory.bytes, at, buffers.total);
            } else {
                System.arraycopy(now.memory.bytes, at, moved, 0, buffers.total);
                buffers.scatterFrom(moved, now.memory.bytes);
            }
        }
        return buffers.total;
    }

    public long register(int r) {
        return r >= 0 && r < REGISTERS ? now.registers[r] : 0;
    }

    public boolean sets(int r, long v) {
        if (r < 0 || r >= REGISTERS) {
            return false;
        }
        now.registers[r] = v;
        return true;
    }

    private int stackAddress() {
        return now.memory.line - FRAME_BYTES * now.frames;
    }

    public int frame() {
        refusal = 0;
        for (int r = 0; r < REGISTERS; r++) {
            if (refuses(Kinds.fitsInt(now.registers[r]) ? 0 : OVER)) {
                return NONE;
            }
        }
        int address = stackAddress() - FRAME_BYTES;
        if (refuses(now.memory.refusalOf(address, FRAME_BYTES))) {
            return NONE;
        }
        for (int r = 0; r < REGISTERS; r++) {
            now.memory.lay(address + 4 * r, 4, now.registers[r]);
        }
        now.memory.lay(address + 4 * REGISTERS, 4, now.frames);
        now.frames++;
        return address;
    }

    public int returns() {
        refusal = 0;
        if (refuses(now.frames == 0 ? NO_FRAME : 0)) {
            return NONE;
        }
        int address = stackAddress();
        long ahead = now.memory.cellAt(address + 4 * REGISTERS, INT, false);
        if (refuses(ahead == now.frames - 1 ? 0 : WRONG_KIND)) {
            return NONE;
        }
        for (int r = 0; r < REGISTERS; r++) {
            now.registers[r] = now.memory.cellAt(address + 4 * r, INT, false);
        }
        now.frames--;
        return now.frames;
    }

    public boolean hold(int slot) {
        if (slot < 0 || slot >= SLOTS) {
            return false;
        }
        slots[slot].become(now);
        held[slot] = true;
        return true;
    }

    public boolean restore(int slot) {
        if (slot < 0 || slot >= SLOTS || !held[slot]) {
            return false;
        }
        now.become(slots[slot]);
        return true;
    }

    public int count(int what) {
        switch (what) {
            case 0: return plan.told;
            case 1: return now.memory.line;
            case 2: return now.memory.isBig ? 1 : 0;
            case 3: return now.frames;
            case 4: return stackAddress();
            case 5: return taped;
            case 6: return heldSlots();
            case 7: return now.usedBins();
            case 8: return now.memory.usedBytes();
            case 9: return refusals;
            default: return NONE;
        }
    }

    private int heldSlots() {
        int found = 0;
        for (int slot = 0; slot < SLOTS; slot++) {
            found += held[slot] ? 1 : 0;
        }
        return found;
    }

    /**
     * What the KINDS are, and numbers of them. A number stands in a long: whole ones as they are (a
     * FLAG as 1 or 0), a FLOAT and a DOUBLE as their bits, since the language has no call for bits.
     */
    private static final class Kinds {
        private static final int[] SMALL_BYTES = {1, 1, 2, 2, 4, 4, 4, 8, 8, 4};
        private static final int[] WIDE_BYTES = {1, 1, 2, 2, 4, 8, 4, 8, 8, 8};
        private static final int SMALL_MULTIPLE = 4;

        private static final int FLOAT_FRACTION = 23;
        private static final int FLOAT_BIAS = 127;
        private static final int FLOAT_SIGN = 31;
        private static final int FLOAT_TOP = 255;
        private static final int DOUBLE_FRACTION = 52;
        private static final int DOUBLE_BIAS = 1023;
        private static final int DOUBLE_SIGN = 63;
        private static final int DOUBLE_TOP = 2047;

        private Kinds() {
        }

        static int bytesOf(int kind, boolean wide) {
            return wide ? WIDE_BYTES[kind] : SMALL_BYTES[kind];
        }

        static int multipleOf(int kind, boolean wide) {
            return wide ? WIDE_BYTES[kind] : Math.min(SMALL_BYTES[kind], SMALL_MULTIPLE);
        }

        static int nextMultiple(int from, int of) {
            return of < 1 ? from : (from + of - 1) / of * of;
        }

        static int onRow(int kind) {
            return kind == QUAD || kind == PTR ? LONG : kind;
        }

        static boolean widens(int from, int to) {
            if (from == to) {
                return true;
            }
            if (from == FLAG || to == CHAR || from == CHAR && to == SHORT) {
                return false;
            }
            return from < to;
        }

        static boolean fitsInt(long v) {
            return v == (int) v;
        }

        /** The lowest bytes of v as a number of a KIND, with its sign if the KIND has one. */
        static long extended(int kind, long v, int bytes) {
            if (kind != BYTE && kind != SHORT && kind != INT && kind != LONG) {
                return v;
            }
            int above = 64 - 8 * bytes;
            return v << above >> above;
        }

        static long made(long v, int kind) {
            switch (kind) {
                case FLAG: return v != 0 ? 1 : 0;
                case BYTE: return (byte) v;
                case CHAR: return (char) v;
                case SHORT: return (short) v;
                case INT: return (int) v;
                case FLOAT: return floatBits(v);
                case DOUBLE: return doubleBits(v);
                default: return v;
            }
        }

        static long toldOf(long number, int kind) {
            switch (kind) {
                case FLOAT: return cutDouble(doubleOfFloat(number));
                case DOUBLE: return cutDouble(number);
                default: return number;
            }
        }

        /** A number of a KIND as one of another that it WIDENS to. */
        static long widened(long number, int from, int to) {
            if (from == to || to < FLOAT) {
                return number;
            }
            if (to == FLOAT) {
                return floatBits(number);
            }
            return from == FLOAT ? doubleOfFloat(number) : doubleBits(number);
        }

        static boolean isNoNumber(long bits, int kind) {
            if (kind == FLOAT) {
                return (bits & 0x7FFFFFFFL) > (long) FLOAT_TOP << FLOAT_FRACTION;
            }
            return kind == DOUBLE && (bits & Long.MAX_VALUE) > (long) DOUBLE_TOP << DOUBLE_FRACTION;
        }

        /** Whether two DOUBLES are equal: 0 and -0 are. */
        static boolean isSameDouble(long one, long other) {
            return one == other || ((one | other) & Long.MAX_VALUE) == 0;
        }

        private static long floatBits(long v) {
            return (v < 0 ? 1L << FLOAT_SIGN : 0) | nearest(v, FLOAT_FRACTION, FLOAT_BIAS);
        }

        private static long doubleBits(long v) {
            return (v < 0 ? 1L << DOUBLE_SIGN : 0) | nearest(v, DOUBLE_FRACTION, DOUBLE_BIAS);
        }

        /** The bits, without the sign, of the number nearest to v: of two such the even one. */
        private static long nearest(long v, int fraction, int bias) {
            if (v == 0) {
                return 0;
            }
            long size = v < 0 ? -v : v;
            int top = 63 - Long.numberOfLeadingZeros(size);
            int lost = top - fraction;
            long kept = lost > 0 ? rounded(size, lost) : size << -lost;
            // Added, not joined: what is rounded up to the next power raises the exponent too.
            return ((long) (top + bias) << fraction) + kept - (1L << fraction);
        }

        private static long rounded(long size, int lost) {
            long kept = size >>> lost;
            long rest = size & (1L << lost) - 1;
            long half = 1L << lost - 1;
            return rest > half || rest == half && (kept & 1) == 1 ? kept + 1 : kept;
        }

        private static long doubleOfFloat(long bits) {
            long sign = (bits >>> FLOAT_SIGN & 1) << DOUBLE_SIGN;
            int exponent = (int) (bits >>> FLOAT_FRACTION) & FLOAT_TOP;
            long fraction = bits & (1L << FLOAT_FRACTION) - 1;
            int more = DOUBLE_FRACTION - FLOAT_FRACTION;
            if (exponent == FLOAT_TOP) {
                return sign | (long) DOUBLE_TOP << DOUBLE_FRACTION | fraction << more;
            }
            if (exponent > 0) {
                long raised = exponent - FLOAT_BIAS + DOUBLE_BIAS;
                return sign | raised << DOUBLE_FRACTION | fraction << more;
            }
            return fraction == 0 ? sign : sign | tinyFloat(fraction);
        }

        // A FLOAT below its least full exponent has a full one as a DOUBLE.
        private static long tinyFloat(long fraction) {
            int top = 63 - Long.numberOfLeadingZeros(fraction);
            long exponent = top - FLOAT_FRACTION + 1 - FLOAT_BIAS + DOUBLE_BIAS;
            return (exponent << DOUBLE_FRACTION) + (fraction << DOUBLE_FRACTION - top) - (1L << DOUBLE_FRACTION);
        }

        private static long cutDouble(long bits) {
            int exponent = ((int) (bits >>> DOUBLE_FRACTION) & DOUBLE_TOP) - DOUBLE_BIAS;
            if (exponent < 0) {
                return 0;
            }
            if (exponent >= 63) {
                return bits < 0 ? Long.MIN_VALUE : Long.MAX_VALUE;
            }
            long whole = bits & (1L << DOUBLE_FRACTION) - 1 | 1L << DOUBLE_FRACTION;
            int shift = DOUBLE_FRACTION - exponent;
            long size = shift > 0 ? whole >>> shift : whole << -shift;
            return bits < 0 ? -size : size;
        }
    }

    /** The bytes of the small machine, with the rules by which numbers lie in them. */
    private static final class Memory {
        final byte[] bytes = new byte[MEMORY_BYTES];
        int line = MEMORY_BYTES;
        boolean isBig;

        void begin() {
            Arrays.fill(bytes, (byte) 0);
            line = MEMORY_BYTES;
            isBig = false;
        }

        void become(Memory other) {
            System.arraycopy(other.bytes, 0, bytes, 0, MEMORY_BYTES);
            line = other.line;
            isBig = other.isBig;
        }

        int refusalOf(long address, int n) {
            return n == 0 || address >= 0 && address + n <= line ? 0 : BEYOND_LINE;
        }

        /** What forbids a number in a CELL of the SMALL layout. */
        int fitRefusal(int kind, long v) {
            boolean over = kind == LONG && !Kinds.fitsInt(v) || kind == PTR && (v < 0 || v > line);
            return over ? OVER : 0;
        }

        long cellAt(int address, int kind, boolean wide) {
            int size = Kinds.bytesOf(kind, wide);
            long v = 0;
            for (int i = 0; i < size; i++) {
                int at = isBig ? address + i : address + size - 1 - i;
                v = v << 8 | bytes[at] & 255;
            }
            return Kinds.extended(kind, v, size);
        }

        void lay(int address, int size, long v) {
            for (int i = 0; i < size; i++) {
                int at = isBig ? address + size - 1 - i : address + i;
                bytes[at] = (byte) (v >>> 8 * i);
            }
        }

        void layCells(Form form, Layout laid, int address, long[] values) {
            for (int c = 0; c < form.cells; c++) {
                lay(address + laid.offsets[c], Kinds.bytesOf(form.cellKinds[c], laid.isWide), values[c]);
            }
        }

        void clearBytes(int address, int n) {
            for (int i = 0; i < n; i++) {
                bytes[address + i] = 0;
            }
        }

        int usedBytes() {
            int used = 0;
            for (int i = 0; i < MEMORY_BYTES; i++) {
                used += bytes[i] != 0 ? 1 : 0;
            }
            return used;
        }
    }

    /** What a SLOT holds. */
    private static final class State {
        final Memory memory = new Memory();
        final Bin[] bins = new Bin[BINS];
        final long[] registers = new long[REGISTERS];
        int frames;

        State() {
            for (int b = 0; b < BINS; b++) {
                bins[b] = new Bin();
            }
        }

        void begin(Memory told) {
            memory.become(told);
            for (int b = 0; b < BINS; b++) {
                bins[b].begin(EMPTY_BIN, 0);
            }
            Arrays.fill(registers, 0L);
            frames = 0;
        }

        void become(State other) {
            memory.become(other.memory);
            for (int b = 0; b < BINS; b++) {
                bins[b].become(other.bins[b]);
            }
            System.arraycopy(other.registers, 0, registers, 0, REGISTERS);
            frames = other.frames;
        }

        int usedBins() {
            int bits = 0;
            for (int b = 0; b < BINS; b++) {
                bits |= bins[b].sort != EMPTY_BIN ? 1 << b : 0;
            }
            return bits;
        }
    }

    /** A BIN: each CELL of its ROW has a content (what box() tells of it) and a number for it. */
    private static final class Bin {
        int sort = EMPTY_BIN;
        int cells;
        final int[] contents = new int[MOST_ROW_CELLS];
        final long[] numbers = new long[MOST_ROW_CELLS];

        void begin(int newSort, int n) {
            sort = newSort;
            cells = n;
            Arrays.fill(contents, newSort <= DOUBLE ? newSort : BLANK);
            Arrays.fill(numbers, 0L);
        }

        void become(Bin other) {
            sort = other.sort;
            cells = other.cells;
            System.arraycopy(other.contents, 0, contents, 0, MOST_ROW_CELLS);
            System.arraycopy(other.numbers, 0, numbers, 0, MOST_ROW_CELLS);
        }

        int rowRefusal() {
            if (sort == EMPTY_BIN) {
                return HOLDS_NOTHING;
            }
            return sort == THING_BIN ? WRONG_KIND : 0;
        }

        int placeRefusal(int i) {
            return i >= 0 && i < cells ? 0 : NO_PLACE;
        }

        int cellRefusal(int i) {
            int found = rowRefusal();
            return found != 0 ? found : placeRefusal(i);
        }

        int numberRefusal(int i) {
            if (sort == ANY_ROW || sort == WORDS_ROW) {
                return WRONG_KIND;
            }
            return cellRefusal(i);
        }

        int readRefusal(int i, int kind) {
            int found = numberRefusal(i);
            return found != 0 || Kinds.widens(sort, kind) ? found : WRONG_KIND;
        }

        int writeRefusal(int i, int kind) {
            int found = numberRefusal(i);
            return found != 0 || Kinds.widens(kind, sort) ? found : WRONG_KIND;
        }

        int putRefusal(int i, int content) {
            if (sort <= DOUBLE && content == BLANK) {
                return WRONG_KIND;
            }
            int found = cellRefusal(i);
            return found != 0 || takes(content) ? found : WRONG_KIND;
        }

        boolean takes(int content) {
            if (sort <= DOUBLE) {
                return isNumberKind(content) && Kinds.widens(content, sort);
            }
            return sort == ANY_ROW || content == WORD || content == BLANK;
        }

        int pasteRefusal(Bin from) {
            if (sort == EMPTY_BIN || from.sort == EMPTY_BIN) {
                return HOLDS_NOTHING;
            }
            if (sort == THING_BIN || from.sort == THING_BIN) {
                return WRONG_KIND;
            }
            boolean bothOfObjects = sort > DOUBLE && from.sort > DOUBLE;
            return sort == from.sort || bothOfObjects ? 0 : WRONG_KIND;
        }

        int spanRefusal(int i, int n) {
            return n < 0 || i < 0 || (long) i + n > cells ? NO_PLACE : 0;
        }

        int wordsFrom(int i, int n) {
            int found = 0;
            while (found < n && (contents[i + found] == WORD || contents[i + found] == BLANK)) {
                found++;
            }
            return found;
        }

        void pasteCells(Bin from, int i, int j, int n) {
            System.arraycopy(from.contents, i, contents, j, n);
            System.arraycopy(from.numbers, i, numbers, j, n);
        }

        long numberAs(int i, int kind) {
            return Kinds.widened(numbers[i], sort, kind);
        }

        void fillCell(int i, int content, long number) {
            if (sort <= DOUBLE) {
                numbers[i] = Kinds.widened(number, content, sort);
            } else {
                contents[i] = content;
                numbers[i] = number;
            }
        }

        long toldAt(int i) {
            return Kinds.toldOf(numbers[i], contents[i]);
        }

        boolean isAlike(Bin other, int i) {
            int mine = contents[i];
            int others = other.contents[i];
            boolean asDoubles = mine != FLAG && isNumberKind(mine) && others != FLAG && isNumberKind(others);
            if (!asDoubles) {
                return mine == others && numbers[i] == other.numbers[i];
            }
            long one = Kinds.widened(numbers[i], mine, DOUBLE);
            return Kinds.isSameDouble(one, Kinds.widened(other.numbers[i], others, DOUBLE));
        }
    }

    /** Buffers of a list, all of them looked at already. */
    private static final class Buffers {
        final int[] starts = new int[MOST_BUFFERS];
        final int[] sizes = new int[MOST_BUFFERS];
        int told;
        int total;
        int empties;
        int greatest;

        void begin() {
            told = 0;
            total = 0;
            empties = 0;
            greatest = 0;
        }

        void addBuffer(long start, int size) {
            // The start of an empty one may be any number, and is never used.
            starts[told] = (int) start;
            sizes[told] = size;
            told++;
            total += size;
            empties += size == 0 ? 1 : 0;
            greatest = Math.max(greatest, size);
        }

        void gatherInto(byte[] memory, byte[] row) {
            int at = 0;
            for (int i = 0; i < told; i++) {
                if (sizes[i] > 0) {
                    System.arraycopy(memory, starts[i], row, at, sizes[i]);
                    at += sizes[i];
                }
            }
        }

        void scatterFrom(byte[] row, byte[] memory) {
            int at = 0;
            for (int i = 0; i < told; i++) {
                if (sizes[i] > 0) {
                    System.arraycopy(row, at, memory, starts[i], sizes[i]);
                    at += sizes[i];
                }
            }
        }
    }

    /** A FORM, laid out by the rules of both machines. */
    private static final class Form {
        long name;
        int members;
        int cells;
        final int[] kinds = new int[MOST_MEMBERS];
        final int[] repeats = new int[MOST_MEMBERS];
        final int[] firstCells = new int[MOST_MEMBERS];
        final int[] cellKinds = new int[MOST_FORM_CELLS];
        final Layout small = new Layout(false);
        final Layout wide = new Layout(true);
        final Arguments arguments = new Arguments();

        void begin(long newName) {
            name = newName;
            members = 0;
            cells = 0;
        }

        void addMember(int kind, int n) {
            kinds[members] = kind;
            repeats[members] = n;
            firstCells[members] = cells;
            members++;
            for (int i = 0; i < n; i++) {
                cellKinds[cells] = kind;
                cells++;
            }
        }

        void layOut() {
            small.layCells(cellKinds, cells);
            wide.layCells(cellKinds, cells);
            arguments.pass(cellKinds, cells);
        }
    }

    /** Where the CELLS of a FORM lie on one of the machines. */
    private static final class Layout {
        final boolean isWide;
        final int[] offsets = new int[MOST_FORM_CELLS];
        int multiple;
        int size;

        Layout(boolean wide) {
            isWide = wide;
        }

        void layCells(int[] cellKinds, int cells) {
            multiple = 1;
            int end = 0;
            for (int c = 0; c < cells; c++) {
                int of = Kinds.multipleOf(cellKinds[c], isWide);
                offsets[c] = Kinds.nextMultiple(end, of);
                end = offsets[c] + Kinds.bytesOf(cellKinds[c], isWide);
                multiple = Math.max(multiple, of);
            }
            size = Kinds.nextMultiple(end, multiple);
        }
    }

    /** Where the CELLS of a FORM go as arguments of a call on the small machine. */
    private static final class Arguments {
        final int[] registers = new int[MOST_FORM_CELLS];
        final int[] offsets = new int[MOST_FORM_CELLS];
        final int[] taken = new int[MOST_FORM_CELLS];

        void pass(int[] cellKinds, int cells) {
            int used = 0;
            int stacked = 0;
            boolean isFull = false;
            for (int c = 0; c < cells; c++) {
                int needed = Kinds.bytesOf(cellKinds[c], false) == 8 ? 2 : 1;
                int first = Kinds.nextMultiple(used, needed);
                isFull = isFull || first + needed > ARGUMENT_REGISTERS;
                if (isFull) {
                    registers[c] = ELSEWHERE;
                    offsets[c] = Kinds.nextMultiple(stacked, 4 * needed);
                    stacked = offsets[c] + 4 * needed;
                } else {
                    registers[c] = first;
                    offsets[c] = ELSEWHERE;
                    used = first + needed;
                }
                taken[c] = used;
            }
        }
    }

    /** What a text tells. */
    private static final class Plan {
        final Memory memory = new Memory();
        final Form[] forms = new Form[MOST_FORMS];
        int told;

        Plan() {
            for (int f = 0; f < MOST_FORMS; f++) {
                forms[f] = new Form();
            }
        }

        void begin() {
            memory.begin();
            told = 0;
        }

        boolean hasName(long name) {
            for (int f = 0; f < told; f++) {
                if (forms[f].name == name) {
                    return true;
                }
            }
            return false;
        }
    }

    /** The TOKENS of a text, up to its end, to the first that is none, or to the first too many. */
    private static final class Tokens {
        static final int TEXT_END = 0;
        static final int NO_TOKEN = 1;
        static final int NAME = 2;
        static final int DIGITS = 3;
        static final int SIGN = 4;
        static final int KIND_WORD = 5;
        static final int BIG_WORD = 6;
        static final int LINE_WORD = 7;
        static final int FORM_WORD = 8;
        static final int FILL_WORD = 9;

        private static final String WORDS =
                "flag byte char short int long float double quad ptr big line form fill ";
        private static final int WORD_COUNT = 14;
        private static final int KIND_COUNT = 10;
        private static final int MOST_LETTERS = 8;
        private static final int MOST_DIGITS = 4;

        final int[] types = new int[MOST_TOKENS + 1];
        final int[] places = new int[MOST_TOKENS + 1];
        final long[] values = new long[MOST_TOKENS + 1];
        private final long[] words = new long[WORD_COUNT];

        Tokens() {
            int word = 0;
            for (int i = 0; i < WORDS.length() && word < WORD_COUNT; i++) {
                if (WORDS.charAt(i) == ' ') {
                    word++;
                } else {
                    words[word] = spelled(words[word], WORDS.charAt(i));
                }
            }
        }

        // Eight letters of five bits each have room in a long, and no two words are the same.
        private static long spelled(long letters, int next) {
            return letters << 5 | next - 'a' + 1;
        }

        void scan(byte[] text, int length) {
            int at = 0;
            for (int t = 0; t <= MOST_TOKENS; t++) {
                while (at < length && isBlank(text[at])) {
                    at++;
                }
                places[t] = at;
                at = scanToken(text, length, at, t);
                if (types[t] == TEXT_END || types[t] == NO_TOKEN) {
                    return;
                }
            }
        }

        private int scanToken(byte[] text, int length, int at, int t) {
            values[t] = 0;
            if (at >= length) {
                types[t] = TEXT_END;
                return at;
            }
            if (isLetter(text[at])) {
                return scanWord(text, length, at, t);
            }
            if (isDigit(text[at])) {
                return scanDigits(text, length, at, t);
            }
            types[t] = text[at] == ';' ? SIGN : NO_TOKEN;
            return at + 1;
        }

        private int scanWord(byte[] text, int length, int from, int t) {
            int at = from;
            while (at < length && isLetter(text[at])) {
                values[t] = spelled(values[t], text[at]);
                at++;
            }
            types[t] = at - from > MOST_LETTERS ? NO_TOKEN : NAME;
            for (int w = 0; w < WORD_COUNT && types[t] == NAME; w++) {
                if (words[w] == values[t]) {
                    types[t] = w < KIND_COUNT ? KIND_WORD : BIG_WORD + w - KIND_COUNT;
                    values[t] = w;
                }
            }
            return at;
        }

        private int scanDigits(byte[] text, int length, int from, int t) {
            int at = from;
            while (at < length && isDigit(text[at])) {
                values[t] = values[t] * 10 + text[at] - '0';
                at++;
            }
            types[t] = at - from > MOST_DIGITS ? NO_TOKEN : DIGITS;
            return at;
        }

        private static boolean isBlank(int sign) {
            return sign == 9 || sign == 10 || sign == 13 || sign == 32;
        }

        private static boolean isLetter(int sign) {
            return sign >= 'a' && sign <= 'z';
        }

        private static boolean isDigit(int sign) {
            return sign >= '0' && sign <= '9';
        }
    }

    /** Reads a text into a plan, or finds its FAULT. */
    private static final class Reader {
        private static final int SYNTAX = 1;
        private static final int ROOM = 2;
        private static final int TWICE = 3;
        private static final int WRONG = 5;

        int faultPlace;
        private final Tokens tokens = new Tokens();
        private Plan plan;
        private int next;
        private int fault;
        private boolean isStopped;

        int faultOf(byte[] text, int length, Plan into) {
            tokens.scan(text, length);
            plan = into;
            plan.begin();
            next = 0;
            fault = 0;
            isStopped = false;
            for (int tells = 0; tells <= MOST_TOKENS && !isStopped && !isNext(Tokens.TEXT_END); tells++) {
                readTell();
            }
            return fault;
        }

        private void readTell() {
            switch (tokens.types[next]) {
                case Tokens.BIG_WORD: readBig(); break;
                case Tokens.LINE_WORD: readLine(); break;
                case Tokens.FORM_WORD: readForm(); break;
                case Tokens.FILL_WORD: readFill(); break;
                default: stop(SYNTAX);
            }
        }

        private boolean isNext(int type) {
            return tokens.types[next] == type;
        }

        /** Goes on behind a token of this type, or stops at what stands there. */
        private boolean pass(int type) {
            if (!isNext(type)) {
                return stop(SYNTAX);
            }
            if (next == MOST_TOKENS) {
                return stop(ROOM);
            }
            next++;
            return true;
        }

        private int passed() {
            return (int) tokens.values[next - 1];
        }

        // SYNTAX and ROOM go ahead of what is wrong at an earlier place.
        private boolean stop(int found) {
            fault = found;
            faultPlace = tokens.places[next];
            isStopped = true;
            return false;
        }

        private void note(int found) {
            if (fault == 0) {
                fault = found;
                faultPlace = tokens.places[next - 1];
            }
        }

        private void readBig() {
            if (pass(Tokens.BIG_WORD) && pass(Tokens.SIGN)) {
                plan.memory.isBig = true;
            }
        }

        private void readLine() {
            if (!pass(Tokens.LINE_WORD) || !pass(Tokens.DIGITS)) {
                return;
            }
            int line = passed();
            if (line < 1 || line > MEMORY_BYTES) {
                note(WRONG);
            } else {
                plan.memory.line = line;
            }
            pass(Tokens.SIGN);
        }

        private void readForm() {
            if (plan.told == MOST_FORMS) {
                stop(ROOM);
                return;
            }
            if (!pass(Tokens.FORM_WORD) || !pass(Tokens.NAME)) {
                return;
            }
            long name = tokens.values[next - 1];
            if (plan.hasName(name)) {
                note(TWICE);
            }
            Form form = plan.forms[plan.told];
            form.begin(name);
            if (readMembers(form) && pass(Tokens.SIGN)) {
                form.layOut();
                plan.told++;
            }
        }

        private boolean readMembers(Form form) {
            for (int m = 0; m == 0 || isNext(Tokens.KIND_WORD); m++) {
                if (m == MOST_MEMBERS) {
                    return stop(ROOM);
                }
                if (!pass(Tokens.KIND_WORD)) {
                    return false;
                }
                int kind = passed();
                if (isNext(Tokens.DIGITS) && !pass(Tokens.DIGITS)) {
                    return false;
                }
                form.addMember(kind, repeatsPassed());
            }
            return true;
        }

        private int repeatsPassed() {
            if (tokens.types[next - 1] != Tokens.DIGITS) {
                return 1;
            }
            int repeats = passed();
            if (repeats < 1 || repeats > MOST_REPEATS) {
                note(WRONG);
                return 1;
            }
            return repeats;
        }

        private void readFill() {
            if (!pass(Tokens.FILL_WORD) || !pass(Tokens.DIGITS)) {
                return;
            }
            int address = passed();
            if (address >= MEMORY_BYTES) {
                note(WRONG);
            }
            for (int i = 0; i == 0 || isNext(Tokens.DIGITS); i++) {
                if (i == MOST_FILL) {
                    stop(ROOM);
                    return;
                }
                if (!pass(Tokens.DIGITS)) {
                    return;
                }
                fillByte(address + i, passed());
            }
            pass(Tokens.SIGN);
        }

        private void fillByte(int address, int v) {
            if (v > 255 || address >= MEMORY_BYTES) {
                note(WRONG);
            } else {
                plan.memory.bytes[address] = (byte) v;
            }
        }
    }
}

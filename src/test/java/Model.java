import java.lang.reflect.Array;
import java.nio.ByteBuffer;
import java.nio.ByteOrder;
import java.nio.charset.StandardCharsets;
import java.util.ArrayList;
import java.util.Arrays;
import java.util.HashMap;
import java.util.LinkedHashMap;
import java.util.List;
import java.util.Map;
import java.util.TreeMap;
import java.util.regex.Matcher;
import java.util.regex.Pattern;

/**
 * The document a second time, by other means: ROWS are Java's own arrays, read, written and pasted by
 * Java's own rules, and what those throw is the REFUSAL; numbers are Java's own; texts are read by a
 * table of states.
 */
final class Model {
    private static final List<String> KINDS =
            List.of("flag", "byte", "char", "short", "int", "long", "float", "double", "quad", "ptr");
    private static final Class<?>[] SORTS = {boolean.class, byte.class, char.class, short.class, int.class,
        long.class, float.class, double.class, Object.class, String.class};
    private static final List<Class<?>> BOXES = List.of(Boolean.class, Byte.class, Character.class, Short.class,
        Integer.class, Long.class, Float.class, Double.class);
    private static final Object THING = new StringBuilder("the thing");
    private static final int[] SMALL = {1, 1, 2, 2, 4, 4, 4, 8, 8, 4};
    private static final int[] WIDE = {1, 1, 2, 2, 4, 8, 4, 8, 8, 8};

    private String tape = "";
    private int place = -1;
    private int why;
    private int refused;
    private List<List<int[]>> forms = new ArrayList<>();
    private int line = 256;
    private boolean big;
    private ByteBuffer memory = ByteBuffer.allocate(256).order(ByteOrder.LITTLE_ENDIAN);
    private Object[] bins = new Object[8];
    private long[] registers = new long[8];
    private int frames;
    private final Map<Integer, Object[]> slots = new HashMap<>();

    /** A REFUSAL as an exception of the model's own. */
    private static final class Refused extends RuntimeException {
        private static final long serialVersionUID = 1;
        final int number;

        Refused(int number) {
            this.number = number;
        }
    }

    private interface Call {
        long answer();
    }

    private long guarded(long otherwise, Call call) {
        why = 0;
        try {
            return call.answer();
        } catch (RuntimeException e) {
            return refuse(e, otherwise);
        }
    }

    private long refuse(RuntimeException e, long otherwise) {
        if (why == 0) {
            why = numberOf(e);
            refused++;
        }
        return otherwise;
    }

    private static int numberOf(RuntimeException e) {
        if (e instanceof Refused r) {
            return r.number;
        }
        if (e instanceof IndexOutOfBoundsException) {
            return 1;
        }
        if (e instanceof IllegalArgumentException || e instanceof ArrayStoreException) {
            return 2;
        }
        if (e instanceof NullPointerException) {
            return 3;
        }
        throw e;
    }

    // ---- texts

    long feed(int... fours) {
        if (tape.length() > 1980) {
            return -1;
        }
        ByteBuffer twenty = ByteBuffer.allocate(20);
        for (int four : fours) {
            twenty.putInt(four);
        }
        tape += new String(twenty.array(), StandardCharsets.ISO_8859_1);
        return tape.length();
    }

    long back(int n) {
        if (n < 0 || n > tape.length()) {
            return -1;
        }
        tape = tape.substring(0, tape.length() - n);
        return tape.length();
    }

    private static final Pattern TOKEN = Pattern.compile("[a-z]+|[0-9]+|[^ \\t\\n\\r]");
    private static final Map<String, String> NEXT = new HashMap<>();

    static {
        String[] rows = {"start big sign", "start line one", "start form name", "start fill address", "start end start",
            "sign ; start", "one int sign", "name name first", "first kind sized", "sized kind sized", "sized int more",
            "sized ; start", "more kind sized", "more ; start", "address int byte", "byte int bytes",
            "bytes int bytes", "bytes ; start"};
        for (String row : rows) {
            String[] parts = row.split(" ");
            NEXT.put(parts[0] + " " + parts[1], parts[2]);
        }
    }

    private static String typeOf(String token) {
        if (List.of("big", "line", "form", "fill", ";").contains(token)) {
            return token;
        }
        if (KINDS.contains(token)) {
            return "kind";
        }
        if (token.matches("[a-z]{1,8}")) {
            return "name";
        }
        return token.matches("[0-9]{1,4}") ? "int" : "none";
    }

    long read() {
        String text = tape;
        tape = "";
        TreeMap<Integer, Integer> hard = new TreeMap<>();
        TreeMap<Integer, Integer> soft = new TreeMap<>();
        Map<String, List<int[]>> toldForms = new LinkedHashMap<>();
        byte[] bytes = new byte[256];
        boolean toldBig = false;
        int toldLine = 256;
        String state = "start";
        int tokens = 0;
        int formsSeen = 0;
        int members = 0;
        int address = 0;
        int laid = 0;
        List<int[]> form = null;
        Matcher m = TOKEN.matcher(text);
        while (hard.isEmpty() && m.find()) {
            String token = m.group();
            String type = typeOf(token);
            int at = m.start();
            int v = type.equals("int") ? Integer.parseInt(token) : -1;
            String then = NEXT.get(state + " " + type);
            tokens++;
            formsSeen += type.equals("form") ? 1 : 0;
            members = type.equals("kind") ? members + 1 : type.equals("form") ? 0 : members;
            laid = state.startsWith("byte") && type.equals("int") ? laid + 1 : type.equals("fill") ? 0 : laid;
            if (then == null) {
                hard.put(at, 1);
            } else if (tokens > 400 || formsSeen > 6 || members > 8 || laid > 16) {
                hard.put(at, 2);
            } else if (type.equals("big")) {
                toldBig = true;
            } else if (state.equals("one")) {
                toldLine = v;
                wrong(soft, at, v < 1 || v > 256);
            } else if (state.equals("name")) {
                if (toldForms.containsKey(token)) {
                    soft.put(at, 3);
                }
                form = new ArrayList<>();
                toldForms.put(token, form);
            } else if (type.equals("kind")) {
                form.add(new int[] {KINDS.indexOf(token), 1});
            } else if (state.equals("sized") && type.equals("int")) {
                form.get(form.size() - 1)[1] = v;
                wrong(soft, at, v < 1 || v > 4);
            } else if (state.equals("address")) {
                address = v;
                wrong(soft, at, v > 255);
            } else if (state.startsWith("byte") && type.equals("int")) {
                boolean bad = v > 255 || address + laid - 1 > 255;
                wrong(soft, at, bad);
                if (!bad) {
                    bytes[address + laid - 1] = (byte) v;
                }
            }
            state = then;
        }
        if (hard.isEmpty() && !"start".equals(state)) {
            hard.put(text.length(), 1);
        }
        TreeMap<Integer, Integer> faults = hard.isEmpty() ? soft : hard;
        if (!faults.isEmpty()) {
            place = faults.firstKey();
            return faults.get(place);
        }
        place = -1;
        why = 0;
        refused = 0;
        forms = new ArrayList<>(toldForms.values());
        line = toldLine;
        big = toldBig;
        memory = ByteBuffer.wrap(bytes).order(big ? ByteOrder.BIG_ENDIAN : ByteOrder.LITTLE_ENDIAN);
        bins = new Object[8];
        registers = new long[8];
        frames = 0;
        slots.clear();
        return 0;
    }

    private static void wrong(TreeMap<Integer, Integer> soft, int at, boolean isSo) {
        if (isSo) {
            soft.put(at, 5);
        }
    }

    long place() {
        return place;
    }

    long why() {
        return why;
    }

    // ---- layouts

    private static int size(int kind, boolean wide) {
        return wide ? WIDE[kind] : SMALL[kind];
    }

    private static int multiple(int kind, boolean wide) {
        return wide ? WIDE[kind] : SMALL[kind] == 8 ? 4 : SMALL[kind];
    }

    private static int up(int at, int of) {
        while (at % of != 0) {
            at++;
        }
        return at;
    }

    /** Offsets of the MEMBERS, then the SIZE, then the greatest multiple. */
    private static int[] laidOut(List<int[]> form, boolean wide) {
        int[] laid = new int[form.size() + 2];
        int at = 0;
        int most = 1;
        for (int m = 0; m < form.size(); m++) {
            int[] member = form.get(m);
            laid[m] = up(at, multiple(member[0], wide));
            at = laid[m] + member[1] * size(member[0], wide);
            most = Math.max(most, multiple(member[0], wide));
        }
        laid[form.size()] = up(at, most);
        laid[form.size() + 1] = most;
        return laid;
    }

    /** Of each CELL its KIND, small and wide offset. */
    private static List<int[]> cells(List<int[]> form) {
        List<int[]> cells = new ArrayList<>();
        int[] small = laidOut(form, false);
        int[] wide = laidOut(form, true);
        for (int m = 0; m < form.size(); m++) {
            int kind = form.get(m)[0];
            for (int i = 0; i < form.get(m)[1]; i++) {
                cells.add(new int[] {kind, small[m] + i * SMALL[kind], wide[m] + i * WIDE[kind]});
            }
        }
        return cells;
    }

    private boolean noForm(int form) {
        return form < 0 || form >= forms.size();
    }

    long layout(int form, boolean wide, int m, int what) {
        if (noForm(form) || what < 0 || what > 3) {
            return -1;
        }
        List<int[]> told = forms.get(form);
        int[] laid = laidOut(told, wide);
        int n = told.size();
        if (m == -1) {
            return new int[] {n, cells(told).size(), laid[n + 1], laid[n]}[what];
        }
        if (m < 0 || m >= n) {
            return -1;
        }
        int[] member = told.get(m);
        return new int[] {member[0], member[1], laid[m], member[1] * size(member[0], wide)}[what];
    }

    long argument(int form, int c, int what) {
        if (noForm(form) || what < 0 || what > 2 || c < 0 || c >= cells(forms.get(form)).size()) {
            return -1;
        }
        int taken = 0;
        int stack = -1;
        int[] last = null;
        for (int[] cell : cells(forms.get(form)).subList(0, c + 1)) {
            boolean two = SMALL[cell[0]] == 8;
            int first = two && taken % 2 == 1 ? taken + 1 : taken;
            if (stack < 0 && first + (two ? 2 : 1) <= 6) {
                taken = first + (two ? 2 : 1);
                last = new int[] {first, -2, taken};
            } else {
                int at = up(Math.max(stack, 0), two ? 8 : 4);
                stack = at + (two ? 8 : 4);
                last = new int[] {-2, at, taken};
            }
        }
        return last[what];
    }

    // ---- bytes and rows

    long byteAt(int address) {
        return address < 0 || address > 255 ? -1 : memory.get(address) & 255;
    }

    private void touch(long address, long n) {
        if (n > 0 && (address < 0 || address + n > line)) {
            throw new Refused(5);
        }
    }

    long poke(int address, int v) {
        return guarded(0, () -> {
            touch(address, 1);
            memory.put(address, (byte) v);
            return 1;
        });
    }

    long bin(int b, int sort, int n) {
        if (noBin(b) || sort < 0 || sort > 11 || sort < 10 && (n < 0 || n > 40)) {
            return 0;
        }
        bins[b] = sort == 11 ? null : sort == 10 ? THING : Array.newInstance(SORTS[sort], n);
        return 1;
    }

    private static boolean noBin(int b) {
        return b < 0 || b > 7;
    }

    private static boolean noKind(int k) {
        return k < 0 || k > 7;
    }

    private long noSuch(long answer) {
        why = 0;
        return answer;
    }

    long length(int b) {
        return noBin(b) ? noSuch(-1) : guarded(-1, () -> Array.getLength(bins[b]));
    }

    private static Object made(int k, long v) {
        return switch (k) {
            case 0 -> v != 0;
            case 1 -> (byte) v;
            case 2 -> (char) v;
            case 3 -> (short) v;
            case 4 -> (int) v;
            case 5 -> v;
            case 6 -> (float) v;
            default -> (double) v;
        };
    }

    private static long told(Object box) {
        if (box instanceof Boolean f) {
            return f ? 1 : 0;
        }
        if (box instanceof Character c) {
            return c;
        }
        if (box instanceof String s) {
            return s.length();
        }
        return box instanceof Number n ? n.longValue() : 0;
    }

    private static Object get(Object row, int i, int k) {
        return switch (k) {
            case 0 -> Array.getBoolean(row, i);
            case 1 -> Array.getByte(row, i);
            case 2 -> Array.getChar(row, i);
            case 3 -> Array.getShort(row, i);
            case 4 -> Array.getInt(row, i);
            case 5 -> Array.getLong(row, i);
            case 6 -> Array.getFloat(row, i);
            default -> Array.getDouble(row, i);
        };
    }

    private static void set(Object row, int i, Object box) {
        switch (BOXES.indexOf(box.getClass())) {
            case 0 -> Array.setBoolean(row, i, (Boolean) box);
            case 1 -> Array.setByte(row, i, (Byte) box);
            case 2 -> Array.setChar(row, i, (Character) box);
            case 3 -> Array.setShort(row, i, (Short) box);
            case 4 -> Array.setInt(row, i, (Integer) box);
            case 5 -> Array.setLong(row, i, (Long) box);
            case 6 -> Array.setFloat(row, i, (Float) box);
            default -> Array.setDouble(row, i, (Double) box);
        }
    }

    long cell(int b, int i, int k) {
        return noBin(b) || noKind(k) ? noSuch(0) : guarded(0, () -> told(get(bins[b], i, k)));
    }

    long write(int b, int i, int k, long v) {
        return noBin(b) || noKind(k) ? noSuch(0) : guarded(0, () -> {
            set(bins[b], i, made(k, v));
            return 1;
        });
    }

    private static int contentOf(Object box) {
        return box == null ? -2 : box == THING ? 9 : box instanceof String ? 8 : BOXES.indexOf(box.getClass());
    }

    long box(int b, int i, int what) {
        return noBin(b) || what < 0 || what > 1 ? noSuch(-100000) : guarded(-100000, () -> {
            Object box = Array.get(bins[b], i);
            return what == 0 ? contentOf(box) : told(box);
        });
    }

    long put(int b, int i, int k, long v) {
        return noBin(b) || k < 0 || k > 10 ? noSuch(0) : guarded(0, () -> {
            Array.set(bins[b], i, k == 10 ? null : k == 9 ? THING : k == 8 ? "x".repeat((int) (v & 7)) : made(k, v));
            return 1;
        });
    }

    long copy(int b, int i, int to, int j, int n, int k) {
        if (noBin(b) || noBin(to) || n < 0 || n > 40 || noKind(k)) {
            return noSuch(-1);
        }
        why = 0;
        long done = 0;
        for (int c = 0; c < n; c++) {
            try {
                set(bins[to], j + c, get(bins[b], i + c, k));
                done++;
            } catch (RuntimeException e) {
                refuse(e, 0);
            }
        }
        return done;
    }

    @SuppressWarnings("SuspiciousSystemArraycopy")
    long paste(int b, int i, int to, int j, int n) {
        return noBin(b) || noBin(to) ? noSuch(0) : guarded(0, () -> {
            System.arraycopy(bins[b], i, bins[to], j, n);
            return 1;
        });
    }

    private static boolean alike(Object one, Object other) {
        boolean bothNumbers = contentOf(one) > 0 && contentOf(one) < 8 && contentOf(other) > 0 && contentOf(other) < 8;
        if (bothNumbers) {
            return asDouble(one) == asDouble(other);
        }
        return one == null ? other == null : one.equals(other);
    }

    private static double asDouble(Object box) {
        return box instanceof Character c ? c : ((Number) box).doubleValue();
    }

    long unlike(int one, int other) {
        return noBin(one) || noBin(other) ? noSuch(-2) : guarded(-2, () -> {
            int mine = Array.getLength(bins[one]);
            int others = Array.getLength(bins[other]);
            for (int c = 0; c < Math.max(mine, others); c++) {
                if (c >= mine || c >= others || !alike(Array.get(bins[one], c), Array.get(bins[other], c))) {
                    return c;
                }
            }
            return -1;
        });
    }

    // ---- forms, lists, frames

    private long small(int kind, int at) {
        return switch (SMALL[kind]) {
            case 1 -> memory.get(at);
            case 2 -> kind == 2 ? memory.getChar(at) : memory.getShort(at);
            case 4 -> kind == 9 ? memory.getInt(at) & 0xFFFFFFFFL : memory.getInt(at);
            default -> memory.getLong(at);
        };
    }

    private long wide(int kind, int at) {
        return WIDE[kind] == 8 ? memory.getLong(at) : small(kind, at);
    }

    private void lay(int size, int at, long v) {
        switch (size) {
            case 1 -> memory.put(at, (byte) v);
            case 2 -> memory.putShort(at, (short) v);
            case 4 -> memory.putInt(at, (int) v);
            default -> memory.putLong(at, v);
        }
    }

    private static Object number(int kind, long bits) {
        return switch (kind) {
            case 6 -> Float.intBitsToFloat((int) bits);
            case 7 -> Double.longBitsToDouble(bits);
            case 8, 9 -> bits;
            default -> made(kind, bits);
        };
    }

    private void loadCell(Object bin, int c, Object number) {
        if (number instanceof Float f && f.isNaN() || number instanceof Double d && d.isNaN()) {
            throw new Refused(4);
        }
        set(bin, c, number);
    }

    long load(int form, int address, int b) {
        if (noForm(form) || noBin(b)) {
            return noSuch(-1);
        }
        return guarded(-1, () -> {
            touch(address, laidOut(forms.get(form), false)[forms.get(form).size()]);
            List<int[]> cells = cells(forms.get(form));
            long done = 0;
            for (int c = 0; c < cells.size(); c++) {
                int kind = cells.get(c)[0];
                try {
                    loadCell(bins[b], c, number(kind, small(kind, address + cells.get(c)[1])));
                    done++;
                } catch (RuntimeException e) {
                    refuse(e, 0);
                }
            }
            return done;
        });
    }

    private void fit(int kind, long v) {
        if (kind == 5 && (v < Integer.MIN_VALUE || v > Integer.MAX_VALUE) || kind == 9 && (v < 0 || v > line)) {
            throw new Refused(6);
        }
    }

    private static long bits(Object number) {
        if (number instanceof Float f) {
            return Float.floatToRawIntBits(f);
        }
        return number instanceof Double d ? Double.doubleToRawLongBits(d) : told(number);
    }

    long store(int form, int b, int address) {
        if (noForm(form) || noBin(b)) {
            return noSuch(-1);
        }
        return guarded(-1, () -> {
            int size = laidOut(forms.get(form), false)[forms.get(form).size()];
            touch(address, size);
            List<int[]> cells = cells(forms.get(form));
            long[] values = new long[cells.size()];
            for (int c = 0; c < values.length; c++) {
                int kind = cells.get(c)[0];
                values[c] = bits(get(bins[b], c, kind > 7 ? 5 : kind));
                fit(kind, values[c]);
            }
            for (int c = 0; c < values.length; c++) {
                lay(SMALL[cells.get(c)[0]], address + cells.get(c)[1], values[c]);
            }
            return size;
        });
    }

    long turn(int form, int address, int to, boolean grow) {
        if (noForm(form)) {
            return noSuch(-1);
        }
        return guarded(-1, () -> {
            List<int[]> told = forms.get(form);
            int from = laidOut(told, !grow)[told.size()];
            int onto = laidOut(told, grow)[told.size()];
            touch(address, from);
            touch(to, onto);
            List<int[]> cells = cells(told);
            long[] values = new long[cells.size()];
            for (int c = 0; c < values.length; c++) {
                int[] cell = cells.get(c);
                values[c] = grow ? small(cell[0], address + cell[1]) : wide(cell[0], address + cell[2]);
                if (!grow) {
                    fit(cell[0], values[c]);
                }
            }
            Arrays.fill(memory.array(), to, to + onto, (byte) 0);
            for (int c = 0; c < values.length; c++) {
                int[] cell = cells.get(c);
                lay(size(cell[0], grow), to + cell[grow ? 2 : 1], values[c]);
            }
            return onto;
        });
    }

    private List<int[]> buffers(int address, int n) {
        touch(address, 8L * n);
        List<int[]> found = new ArrayList<>();
        for (int i = 0; i < n; i++) {
            long start = small(9, address + 8 * i);
            int size = memory.getInt(address + 8 * i + 4);
            if (size < 0) {
                throw new Refused(6);
            }
            touch(start, size);
            found.add(new int[] {(int) start, size});
        }
        return found;
    }

    long list(int address, int n, int what) {
        if (n < 0 || n > 8 || what < 0 || what > 2) {
            return noSuch(-1);
        }
        return guarded(-1, () -> {
            List<int[]> found = buffers(address, n);
            if (what == 0) {
                return found.stream().mapToInt(f -> f[1]).sum();
            }
            return what == 1 ? found.stream().filter(f -> f[1] == 0).count()
                : found.stream().mapToInt(f -> f[1]).max().orElse(0);
        });
    }

    long move(int address, int n, int at, boolean gather) {
        if (n < 0 || n > 8) {
            return noSuch(-1);
        }
        return guarded(-1, () -> {
            List<Integer> inBuffers = new ArrayList<>();
            for (int[] f : buffers(address, n)) {
                for (int i = 0; i < f[1]; i++) {
                    inBuffers.add(f[0] + i);
                }
            }
            touch(at, inBuffers.size());
            byte[] before = memory.array().clone();
            for (int i = 0; i < inBuffers.size(); i++) {
                int there = inBuffers.get(i);
                if (gather) {
                    memory.put(at + i, before[there]);
                } else {
                    memory.put(there, before[at + i]);
                }
            }
            return inBuffers.size();
        });
    }

    long register(int r) {
        return noBin(r) ? 0 : registers[r];
    }

    long sets(int r, long v) {
        if (noBin(r)) {
            return 0;
        }
        registers[r] = v;
        return 1;
    }

    long frame() {
        return guarded(-1, () -> {
            for (long r : registers) {
                fit(5, r);
            }
            int at = line - 36 * frames - 36;
            touch(at, 36);
            for (int r = 0; r < 8; r++) {
                memory.putInt(at + 4 * r, (int) registers[r]);
            }
            memory.putInt(at + 32, frames);
            frames++;
            return at;
        });
    }

    long returns() {
        return guarded(-1, () -> {
            if (frames == 0) {
                throw new Refused(7);
            }
            int at = line - 36 * frames;
            if (memory.getInt(at + 32) != frames - 1) {
                throw new Refused(2);
            }
            for (int r = 0; r < 8; r++) {
                registers[r] = memory.getInt(at + 4 * r);
            }
            return --frames;
        });
    }

    private static Object[] copied(Object[] rows) {
        Object[] copies = rows.clone();
        for (int b = 0; b < 8; b++) {
            if (rows[b] != null && rows[b] != THING) {
                int n = Array.getLength(rows[b]);
                copies[b] = Array.newInstance(rows[b].getClass().getComponentType(), n);
                System.arraycopy(rows[b], 0, copies[b], 0, n);
            }
        }
        return copies;
    }

    long hold(int slot) {
        if (slot != 0 && slot != 1) {
            return 0;
        }
        slots.put(slot, new Object[] {memory.array().clone(), copied(bins), registers.clone(), frames});
        return 1;
    }

    long restore(int slot) {
        Object[] kept = slots.get(slot);
        if (kept == null) {
            return 0;
        }
        System.arraycopy(kept[0], 0, memory.array(), 0, 256);
        bins = copied((Object[]) kept[1]);
        registers = ((long[]) kept[2]).clone();
        frames = (Integer) kept[3];
        return 1;
    }

    long count(int what) {
        int used = 0;
        int bits = 0;
        for (byte b : memory.array()) {
            used += b == 0 ? 0 : 1;
        }
        for (int b = 0; b < 8; b++) {
            bits += bins[b] == null ? 0 : 1 << b;
        }
        return switch (what) {
            case 0 -> forms.size();
            case 1 -> line;
            case 2 -> big ? 1 : 0;
            case 3 -> frames;
            case 4 -> line - 36 * frames;
            case 5 -> tape.length();
            case 6 -> slots.size();
            case 7 -> bits;
            case 8 -> used;
            case 9 -> refused;
            default -> -1;
        };
    }
}

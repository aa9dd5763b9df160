/** Long runs of mixed calls on the class and on the model side by side: every answer is the same. */
public final class ModelTest {
    private static final int RUNS = 8000;
    // An object answers for 512 calls. The steps end at this one, so that the last of them, a long text at most,
    // and the look at the end have room too.
    private static final int STEPS_END = 300;
    private static final int MOST_CALLS = 512;
    private static final String[] WORDS = {"flag", "byte", "char", "short", "int", "long", "float", "double", "quad",
        "ptr", "big", "line", "form", "fill", ";", "a", "b", "abcdefgh", "abcdefghi", "0", "1", "4", "5", "200", "255",
        "256", "300", "9999", "10000", ":", "A"};
    private static final long[] NUMBERS = {0, 1, -1, 2, 7, 127, 128, 200, 201, 255, 256, 257, 32767, 32768, 65535, 65536,
        16777217, 2147483647L, 2147483648L, -2147483648L, -2147483649L, 4294967295L, 4294967296L, 9007199254740993L,
        Long.MAX_VALUE, Long.MIN_VALUE};
    private static final int[] EDGES = {Integer.MIN_VALUE, -2, -1, 255, 256, 257, Integer.MAX_VALUE};

    private long seed;
    private final GuestCalls object = new GuestCalls();
    private int calls;
    private final Model y = new Model();
    private String call;

    private ModelTest(long seed) {
        this.seed = seed * 7919 + 17;
    }

    public static void main(String[] args) {
        for (int run = 0; run < RUNS; run++) {
            ModelTest test = new ModelTest(run);
            test.run();
        }
        Check.end("ModelTest");
    }

    private int below(int n) {
        seed = seed * 6364136223846793005L + 1442695040888963407L;
        return (int) ((seed >>> 33) % n);
    }

    private GuestCalls x() {
        calls++;
        return object;
    }

    private void run() {
        if (below(8) > 0) {
            feed(goodText());
            due("read()", x().read(), y.read());
        }
        while (calls < STEPS_END) {
            step();
            due("why() behind " + call, x().why(), y.why());
            if (below(4) == 0) {
                compareOne();
            }
        }
        lookAround();
    }

    private void compareOne() {
        int what = below(12) - 1;
        int r = below(10) - 1;
        switch (below(4)) {
            case 0:
                due("place() behind " + call, x().place(), y.place());
                break;
            case 1:
                due("register(" + r + ") behind " + call, x().register(r), y.register(r));
                break;
            default:
                due("count(" + what + ") behind " + call, x().count(what), y.count(what));
        }
    }

    private void due(String what, long got, long want) {
        Check.due(what, got, want);
    }

    private void named(String name, int... args) {
        StringBuilder text = new StringBuilder(name);
        for (int a : args) {
            text.append(' ').append(a);
        }
        call = text.toString();
    }

    // What there is at the end is more than the calls that are left: each run looks at another part of it.
    private void lookAround() {
        call = "the end";
        while (calls + 3 <= MOST_CALLS) {
            int address = below(258) - 1;
            due("byteAt " + address, x().byteAt(address), y.byteAt(address));
            int b = below(8);
            int i = below(below(4) == 0 ? 41 : 8) - 1;
            due("content of " + b + ", " + i, x().box(b, i, 0), y.box(b, i, 0));
            due("told of " + b + ", " + i, x().box(b, i, 1), y.box(b, i, 1));
        }
    }

    // ---- texts

    private void feed(String text) {
        for (int at = 0; at < text.length(); at += 20) {
            int[] fours = new int[5];
            for (int i = 0; i < 20; i++) {
                fours[i / 4] = fours[i / 4] << 8 | (at + i < text.length() ? text.charAt(at + i) : 32);
            }
            due("feed", x().feed(fours[0], fours[1], fours[2], fours[3], fours[4]), y.feed(fours));
        }
        int rest = (20 - text.length() % 20) % 20;
        due("back", x().back(rest), y.back(rest));
    }

    private String goodText() {
        StringBuilder text = new StringBuilder();
        if (below(3) == 0) {
            text.append("big;");
        }
        if (below(3) == 0) {
            text.append("line ").append(1 + below(256)).append(';');
        }
        int forms = below(7);
        for (int f = 0; f < forms; f++) {
            text.append("form ").append((char) ('a' + f));
            int members = 1 + below(below(3) == 0 ? 8 : 4);
            for (int m = 0; m < members; m++) {
                text.append(' ').append(WORDS[below(10)]);
                if (below(3) == 0) {
                    text.append(1 + below(4));
                }
            }
            text.append(" ;");
        }
        int fills = below(5);
        for (int f = 0; f < fills; f++) {
            text.append("fill ").append(below(240));
            int bytes = 1 + below(16);
            for (int i = 0; i < bytes; i++) {
                text.append(' ').append(byteValue());
            }
            text.append(';');
        }
        return text.toString();
    }

    private int byteValue() {
        int[] often = {0, 0, 0, 1, 2, 255, 127, 128, 240};
        return below(3) == 0 ? below(256) : often[below(often.length)];
    }

    private String anyText() {
        StringBuilder text = new StringBuilder(below(3) == 0 ? "" : goodText());
        int changes = below(3);
        for (int c = 0; c < changes; c++) {
            String word = " ".repeat(below(2)) + WORDS[below(WORDS.length)] + " ".repeat(below(2));
            int at = below(text.length() + 1);
            if (below(2) == 0) {
                text.insert(at, word);
            } else {
                text.delete(at, Math.min(text.length(), at + below(4)));
            }
        }
        return text.length() > 1900 ? text.substring(0, 1900) : text.toString();
    }

    // ---- calls

    private int bin() {
        return below(20) == 0 ? EDGES[below(EDGES.length)] : below(8);
    }

    private int spot() {
        return below(30) == 0 ? EDGES[below(EDGES.length)] : below(below(4) == 0 ? 42 : 8) - 1;
    }

    private int kind() {
        return below(30) == 0 ? below(14) - 2 : below(8);
    }

    private int sort() {
        int[] often = {5, 7, 8, 9, 8, 6};
        return below(3) == 0 ? often[below(often.length)] : below(60) == 0 ? below(16) - 2 : below(12);
    }

    private int address() {
        return below(20) == 0 ? EDGES[below(EDGES.length)] : below(below(2) == 0 ? 256 : 64);
    }

    private int form() {
        return below(15) == 0 ? below(9) - 1 : below((int) Math.max(1, y.count(0)));
    }

    private long number() {
        return below(3) == 0 ? (long) below(1 << 30) << below(40) : NUMBERS[below(NUMBERS.length)];
    }

    private void step() {
        switch (below(8)) {
            case 0: bytesStep(); break;
            case 1: case 2: rowStep(); break;
            case 3: pairStep(); break;
            case 4: case 5: formStep(); break;
            case 6: listStep(); break;
            default: stateStep();
        }
    }

    private void bytesStep() {
        int a = address();
        int v = byteValue();
        named("poke", a, v);
        due(call, x().poke(a, v) ? 1 : 0, y.poke(a, v));
        due("byteAt " + a, x().byteAt(a), y.byteAt(a));
    }

    private void rowStep() {
        int b = bin();
        int i = spot();
        int k = kind();
        long v = number();
        switch (below(7)) {
            case 0:
                int sort = sort();
                named("bin", b, sort, i);
                due(call, x().bin(b, sort, i) ? 1 : 0, y.bin(b, sort, i));
                break;
            case 1:
                named("length", b);
                due(call, x().length(b), y.length(b));
                break;
            case 2:
                named("cell", b, i, k);
                due(call, x().cell(b, i, k), y.cell(b, i, k));
                break;
            case 3:
                named("write", b, i, k, (int) v);
                due(call, x().write(b, i, k, v) ? 1 : 0, y.write(b, i, k, v));
                break;
            case 4:
                int what = below(30) == 0 ? below(4) - 1 : below(2);
                named("box", b, i, what);
                due(call, x().box(b, i, what), y.box(b, i, what));
                break;
            default:
                int content = below(13) - 1;
                named("put", b, i, content, (int) v);
                due(call, x().put(b, i, content, v) ? 1 : 0, y.put(b, i, content, v));
        }
    }

    private void pairStep() {
        int b = bin();
        int to = bin();
        int i = spot();
        int j = spot();
        int n = below(10) == 0 ? below(60) - 10 : below(7) - 1;
        int k = kind();
        switch (below(3)) {
            case 0:
                named("copy", b, i, to, j, n, k);
                due(call, x().copy(b, i, to, j, n, k), y.copy(b, i, to, j, n, k));
                break;
            case 1:
                named("paste", b, i, to, j, n);
                due(call, x().paste(b, i, to, j, n) ? 1 : 0, y.paste(b, i, to, j, n));
                break;
            default:
                named("unlike", b, to);
                due(call, x().unlike(b, to), y.unlike(b, to));
        }
    }

    private void formStep() {
        int form = form();
        int a = address();
        int to = address();
        int b = bin();
        boolean yes = below(2) == 0;
        int what = below(6) - 1;
        int m = below(11) - 2;
        switch (below(7)) {
            case 0:
                named("layout", form, yes ? 1 : 0, m, what);
                due(call, x().layout(form, yes, m, what), y.layout(form, yes, m, what));
                break;
            case 1:
                int c = below(36) - 1;
                named("argument", form, c, what);
                due(call, x().argument(form, c, what), y.argument(form, c, what));
                break;
            case 2: case 3:
                named("load", form, a, b);
                due(call, x().load(form, a, b), y.load(form, a, b));
                break;
            case 4:
                named("store", form, b, a);
                due(call, x().store(form, b, a), y.store(form, b, a));
                break;
            default:
                named("turn", form, a, to, yes ? 1 : 0);
                due(call, x().turn(form, a, to, yes), y.turn(form, a, to, yes));
        }
    }

    private void listStep() {
        int a = address();
        int to = address();
        int n = below(20) == 0 ? below(12) - 2 : below(4);
        boolean yes = below(2) == 0;
        for (int i = 0; i < 8 * n && below(3) > 0 && y.count(2) == 0; i++) {
            int v = i % 4 == 0 ? below(i % 8 == 0 ? 200 : 8) : 0;
            due("poke", x().poke(a + i, v) ? 1 : 0, y.poke(a + i, v));
        }
        if (below(2) == 0) {
            int what = below(20) == 0 ? below(5) - 1 : below(3);
            named("list", a, n, what);
            due(call, x().list(a, n, what), y.list(a, n, what));
        } else {
            named("move", a, n, to, yes ? 1 : 0);
            due(call, x().move(a, n, to, yes), y.move(a, n, to, yes));
        }
    }

    private void stateStep() {
        int r = below(10) - 1;
        int slot = below(4) - 1;
        long v = below(6) == 0 ? number() : (int) number();
        switch (below(9)) {
            case 0: case 1:
                named("sets", r);
                due(call, x().sets(r, v) ? 1 : 0, y.sets(r, v));
                due("register", x().register(r), y.register(r));
                break;
            case 2: case 3:
                named("frame");
                due(call, x().frame(), y.frame());
                break;
            case 4:
                named("returns");
                due(call, x().returns(), y.returns());
                break;
            case 5:
                named("hold", slot);
                due(call, x().hold(slot) ? 1 : 0, y.hold(slot));
                break;
            case 6:
                named("restore", slot);
                due(call, x().restore(slot) ? 1 : 0, y.restore(slot));
                break;
            case 7:
                named("count", r + 1);
                due(call, x().count(r + 1), y.count(r + 1));
                break;
            default:
                textStep();
        }
    }

    private void textStep() {
        String text = anyText();
        call = "read() of " + text;
        feed(text);
        // Texts without FAULT begin anew; most are passed by, so that the run goes on.
        switch (below(8)) {
            case 0: case 1:
                due(call, x().read(), y.read());
                due("place() behind " + call, x().place(), y.place());
                break;
            case 2:
                int part = below(text.length() + 2) - 1;
                due("back " + part, x().back(part), y.back(part));
                break;
            default:
                due("back", x().back(text.length()), y.back(text.length()));
        }
    }
}

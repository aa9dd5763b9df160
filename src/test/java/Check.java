/** What the tests share: answers compared, texts fed, rows filled, the end told. */
final class Check {
    private static int wrong = 0;
    private static int seen = 0;
    private static String topic = "";

    private Check() {
    }

    /** What the answers from here on belong to. */
    static void about(String what) {
        topic = "[" + what + "] ";
    }

    static void due(String call, long got, long want) {
        seen++;
        if (got != want) {
            wrong++;
            System.out.println(topic + call + " answered " + got + ", due is " + want);
        }
    }

    static void due(String call, boolean got, boolean want) {
        due(call, got ? 1 : 0, want ? 1 : 0);
    }

    /** A number that a call answered, and why() behind it. */
    static void due(GuestCalls x, String call, long got, long want, int why) {
        due(call, got, want);
        due("why() behind " + call, x.why(), why);
    }

    static void due(GuestCalls x, String call, boolean got, boolean want, int why) {
        due(x, call, got ? 1 : 0, want ? 1 : 0, why);
    }

    /** Lays a text on the tape, by feeds of twenty bytes and a step back. */
    static void lay(GuestCalls x, String text) {
        for (int at = 0; at < text.length(); at += 20) {
            int[] fours = new int[5];
            for (int i = 0; i < 20; i++) {
                int sign = at + i < text.length() ? text.charAt(at + i) & 255 : 32;
                fours[i / 4] = fours[i / 4] << 8 | sign;
            }
            x.feed(fours[0], fours[1], fours[2], fours[3], fours[4]);
        }
        x.back((20 - text.length() % 20) % 20);
    }

    static GuestCalls told(String text) {
        GuestCalls x = new GuestCalls();
        tell(x, text);
        return x;
    }

    static void tell(GuestCalls x, String text) {
        lay(x, text);
        due("read() of " + text, x.read(), 0);
    }

    /** A text read by a new object: its FAULT (0 without) and the place of it. */
    static void fault(String text, int fault, int place) {
        GuestCalls x = new GuestCalls();
        lay(x, text);
        due("tape of " + text, x.count(5), text.length());
        due("read() of " + text, x.read(), fault);
        due("place() of " + text, x.place(), place);
        due("tape behind " + text, x.count(5), 0);
    }

    static void poke(GuestCalls x, int address, int... bytes) {
        for (int i = 0; i < bytes.length; i++) {
            due("poke(" + (address + i) + ")", x.poke(address + i, bytes[i]), true);
        }
    }

    static void bytes(GuestCalls x, int address, int... bytes) {
        for (int i = 0; i < bytes.length; i++) {
            due("byteAt(" + (address + i) + ")", x.byteAt(address + i), bytes[i]);
        }
    }

    /** Lays bits the lowest byte first. */
    static void bits(GuestCalls x, int address, long bits, int n) {
        for (int i = 0; i < n; i++) {
            x.poke(address + i, (int) (bits >>> 8 * i));
        }
    }

    /** Lays a buffer of a list, the lowest byte first. */
    static void buffer(GuestCalls x, int address, long start, int size) {
        bits(x, address, start, 4);
        bits(x, address + 4, size, 4);
    }

    /** A ROW of numbers, of one of which each CELL is made. */
    static void row(GuestCalls x, int b, int sort, long... values) {
        x.bin(b, sort, values.length);
        for (int i = 0; i < values.length; i++) {
            due("put " + values[i] + " into " + sort, x.put(b, i, sort, values[i]), true);
        }
    }

    /** What the CELLS of a ROW TELL. */
    static void holds(GuestCalls x, int b, long... values) {
        due("length of " + b, x.length(b), values.length);
        for (int i = 0; i < values.length; i++) {
            due("cell " + i + " of " + b, x.box(b, i, 1), values[i]);
        }
    }

    /** What of two objects can be seen is the same, but for the tape, place(), why(), count(9) and SLOTS' insides. */
    static void same(String call, GuestCalls x, GuestCalls y) {
        for (int what = 0; what < 9; what++) {
            if (what != 5) {
                due(call + ": count(" + what + ")", x.count(what), y.count(what));
            }
        }
        for (int r = 0; r < 8; r++) {
            due(call + ": register(" + r + ")", x.register(r), y.register(r));
        }
        for (int address = 0; address < 256; address++) {
            due(call + ": byteAt(" + address + ")", x.byteAt(address), y.byteAt(address));
        }
        for (int b = 0; b < 8; b++) {
            due(call + ": length(" + b + ")", x.length(b), y.length(b));
            due(call + ": why() of length(" + b + ")", x.why(), y.why());
            int cells = y.length(b);
            for (int i = 0; i < cells; i++) {
                due(call + ": box(" + b + ", " + i + ", 0)", x.box(b, i, 0), y.box(b, i, 0));
                due(call + ": box(" + b + ", " + i + ", 1)", x.box(b, i, 1), y.box(b, i, 1));
            }
        }
        for (int f = 0; f < y.count(0); f++) {
            sameForm(call + ": FORM " + f, x, y, f);
        }
    }

    private static void sameForm(String call, GuestCalls x, GuestCalls y, int f) {
        int members = y.layout(f, false, -1, 0);
        int cells = y.layout(f, false, -1, 1);
        for (int m = -1; m < members; m++) {
            for (int what = 0; what < 4; what++) {
                due(call + ", SMALL, " + m + ", " + what, x.layout(f, false, m, what), y.layout(f, false, m, what));
            }
            due(call + ", WIDE, " + m, x.layout(f, true, m, 2), y.layout(f, true, m, 2));
        }
        due(call + ", WIDE SIZE", x.layout(f, true, -1, 3), y.layout(f, true, -1, 3));
        for (int what = 0; what < 3; what++) {
            due(call + ", last ARGUMENT", x.argument(f, cells - 1, what), y.argument(f, cells - 1, what));
        }
    }

    static void end(String test) {
        System.out.println(test + ": " + seen + " answers, " + wrong + " wrong");
        if (wrong != 0) {
            System.exit(1);
        }
    }
}

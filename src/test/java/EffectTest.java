import java.util.LinkedHashMap;
import java.util.List;
import java.util.Map;
import java.util.TreeSet;

/**
 * What a call changes, and what it leaves: each call is made on an object of which every part holds something, and all
 * that the object shows then is laid beside what it shows without the call. Nothing else than what is due differs.
 */
public final class EffectTest {
    private interface Call {
        long on(GuestCalls x);
    }

    private static final int NOW = -1;

    public static void main(String[] args) {
        texts();
        looks();
        memory();
        rows();
        pairs();
        forms();
        lists();
        state();
        Check.end("EffectTest");
    }

    // ---- an object of which every part holds something

    /** Bytes 0 to 5, BINS of all kinds but 7, two FRAMES (one in SLOT 0), a FAULT's place, 17 bytes of tape, why() 1. */
    private static GuestCalls full() {
        GuestCalls x = new GuestCalls();
        Check.lay(x, "line 200;form a byte int;form b long;form c ptr float;fill 0 1 2 3 4 5 6;fill 64 1 0 0 0 3;fill 250 9;");
        x.read();
        Check.row(x, 0, 4, 10, 11, 12);
        x.sets(1, 21);
        x.frame();
        x.hold(0);
        Check.row(x, 0, 4, 13, 14, 15);
        x.bin(1, 8, 3);
        x.put(1, 0, 8, 3);
        x.put(1, 1, 4, 16);
        x.sets(2, 22);
        x.poke(90, 7);
        x.frame();
        x.hold(1);
        x.bin(2, 9, 2);
        x.put(2, 0, 8, 5);
        x.bin(3, 10, 0);
        Check.row(x, 4, 5, 1L << 40, 17);
        Check.row(x, 5, 0, 1, 0);
        Check.row(x, 6, 7, 18, 19);
        x.poke(91, 8);
        x.sets(3, 23);
        Check.lay(x, "big;form;");
        x.read();
        x.feed(0x6C696E65, 0x2031303B, 0x20202020, 0x20202020, 0x20202020);
        x.back(3);
        x.cell(0, 99, 4);
        return x;
    }

    /** All that an object shows, or shows of a SLOT: a name for each, and what it is. */
    private static Map<String, String> shown(GuestCalls x, int slot) {
        Map<String, String> all = new LinkedHashMap<>();
        if (slot == NOW) {
            all.put("why", " " + x.why());
            all.put("refused", " " + x.count(9));
            all.put("place", " " + x.place());
            all.put("tape", " " + x.count(5));
            all.put("slots", " " + x.count(6));
            all.put("forms", written(x));
            all.put("line", " " + x.count(1));
            all.put("big", " " + x.count(2));
        } else if (!x.restore(slot)) {
            return all;
        }
        all.put("frames", " " + x.count(3));
        for (int r = 0; r < 8; r++) {
            all.put("register" + r, "=" + x.register(r));
        }
        for (int b = 0; b < 8; b++) {
            all.put("bin" + b, row(x, b));
        }
        for (int address = 0; address < 256; address++) {
            all.put("byte" + address, "=" + x.byteAt(address));
        }
        return all;
    }

    private static String written(GuestCalls x) {
        StringBuilder text = new StringBuilder();
        for (int f = 0; f < x.count(0); f++) {
            text.append(" of ");
            for (int m = 0; m < x.layout(f, false, -1, 0); m++) {
                text.append(x.layout(f, false, m, 0)).append('x').append(x.layout(f, false, m, 1));
            }
        }
        return text.toString();
    }

    private static String row(GuestCalls x, int b) {
        StringBuilder text = new StringBuilder("=");
        int cells = x.length(b);
        text.append(cells < 0 ? "why " + x.why() : "");
        for (int i = 0; i < cells; i++) {
            text.append(i > 0 ? "," : "").append(x.box(b, i, 0)).append(':').append(x.box(b, i, 1));
        }
        return text.toString();
    }

    /** The call answers what is due, and what differs behind it is what is due, each part with what it is then. */
    private static void changes(String name, Call call, long answer, String... parts) {
        GuestCalls x = full();
        Check.due(name, call.on(x), answer);
        TreeSet<String> differ = differing(shown(full(), NOW), shown(x, NOW));
        for (int slot = 0; slot < 2; slot++) {
            GuestCalls y = full();
            call.on(y);
            if (!differing(shown(full(), slot), shown(y, slot)).isEmpty()) {
                differ.add("slot" + slot);
            }
        }
        boolean isDue = differ.equals(new TreeSet<>(List.of(parts)));
        Check.due(name + ": it changed " + differ + ", and that this is due", isDue, true);
    }

    private static TreeSet<String> differing(Map<String, String> before, Map<String, String> behind) {
        TreeSet<String> names = new TreeSet<>(before.keySet());
        names.addAll(behind.keySet());
        TreeSet<String> differ = new TreeSet<>();
        for (String name : names) {
            String then = behind.getOrDefault(name, " gone");
            if (!then.equals(before.get(name))) {
                differ.add(name + then);
            }
        }
        return differ;
    }

    private static long one(boolean answer) {
        return answer ? 1 : 0;
    }

    // ---- the calls; a part that is not named stays

    private static void texts() {
        changes("feed", x -> x.feed(1, 2, 3, 4, 5), 37, "tape 37");
        changes("back", x -> x.back(5), 12, "tape 12");
        changes("back of none", x -> x.back(0), 17);
        changes("back of too many", x -> x.back(18), -1);
        changes("back below 0", x -> x.back(-1), -1);
        changes("read of SYNTAX", x -> readBehind(x, "big;form"), 1, "tape 0", "place 25");
        changes("read of ROOM", x -> readBehind(x, "fill 0" + " 9".repeat(17) + ";"), 2, "tape 0", "place 56");
        changes("read of TWICE", x -> readBehind(x, "big;form d ptr;form d int;"), 3, "tape 0", "place 37");
        changes("read of WRONG", x -> readBehind(x, "big;line 7;fill 0 9 9;form d int;line 257;"), 5, "tape 0", "place 55");
        changes("read", x -> x.read(), 0, "tape 0", "place -1", "why 0", "refused 0", "slots 0", "slot0", "slot1", "forms",
                "line 10", "frames 0", "register1=0", "register2=0", "register3=0", "bin0=why 3", "bin1=why 3",
                "bin2=why 3", "bin3=why 3", "bin4=why 3", "bin5=why 3", "bin6=why 3", "byte0=0", "byte1=0", "byte2=0",
                "byte3=0", "byte4=0", "byte5=0", "byte64=0", "byte68=0", "byte90=0", "byte91=0", "byte132=0",
                "byte136=0", "byte160=0", "byte168=0", "byte250=0");
    }

    private static int readBehind(GuestCalls x, String text) {
        Check.lay(x, text);
        return x.read();
    }

    private static void looks() {
        changes("place", x -> x.place(), 8);
        changes("why", x -> x.why(), 1);
        changes("layout", x -> x.layout(0, true, 1, 2), 4);
        changes("layout of none", x -> x.layout(3, true, 1, 2), -1);
        changes("argument", x -> x.argument(2, 1, 0), 1);
        changes("argument of none", x -> x.argument(2, 2, 0), -1);
        changes("byteAt", x -> x.byteAt(250), 9);
        changes("byteAt of none", x -> x.byteAt(256), -1);
        changes("register", x -> x.register(3), 23);
        changes("register of none", x -> x.register(8), 0);
        for (int what = 0; what < 11; what++) {
            int asked = what;
            long[] dues = {3, 200, 0, 2, 128, 17, 2, 127, 15, 1, -1};
            changes("count " + what, x -> x.count(asked), dues[what]);
        }
    }

    private static void memory() {
        changes("poke", x -> one(x.poke(199, 265)), 1, "byte199=9", "why 0");
        changes("poke at LINE", x -> one(x.poke(200, 9)), 0, "why 5", "refused 2");
    }

    private static void rows() {
        changes("bin", x -> one(x.bin(7, 8, 2)), 1, "bin7=-2:0,-2:0");
        changes("bin of the same", x -> one(x.bin(0, 4, 3)), 1, "bin0=4:0,4:0,4:0");
        changes("bin of the THING", x -> one(x.bin(0, 10, 0)), 1, "bin0=why 2");
        changes("bin of nothing", x -> one(x.bin(0, 11, 0)), 1, "bin0=why 3");
        changes("bin of no such n", x -> one(x.bin(0, 4, 41)), 0);
        changes("bin of no such sort", x -> one(x.bin(0, 12, 1)), 0);
        changes("bin of no such BIN", x -> one(x.bin(8, 4, 1)), 0);
        changes("length", x -> x.length(0), 3, "why 0");
        changes("length of nothing", x -> x.length(7), -1, "why 3", "refused 2");
        changes("length of no such BIN", x -> x.length(8), -1, "why 0");
        changes("cell", x -> x.cell(0, 2, 7), 15, "why 0");
        changes("cell of a KIND", x -> x.cell(0, 2, 3), 0, "why 2", "refused 2");
        changes("cell of no such KIND", x -> x.cell(0, 2, 8), 0, "why 0");
        changes("write", x -> one(x.write(4, 1, 4, 99)), 1, "bin4=5:1099511627776,5:99", "why 0");
        changes("write of a KIND", x -> one(x.write(0, 1, 5, 99)), 0, "why 2", "refused 2");
        changes("write of no such KIND", x -> one(x.write(0, 1, 8, 99)), 0, "why 0");
        changes("box", x -> x.box(1, 1, 1), 16, "why 0");
        changes("box of the THING", x -> x.box(3, 0, 0), -100000, "why 2", "refused 2");
        changes("box of no such what", x -> x.box(1, 1, 2), -100000, "why 0");
        changes("put", x -> one(x.put(1, 2, 9, 5)), 1, "bin1=8:3,4:16,9:0", "why 0");
        changes("put of a WORD", x -> one(x.put(0, 2, 8, 5)), 0, "why 2", "refused 2");
        changes("put of no such k", x -> one(x.put(1, 2, 11, 5)), 0, "why 0");
    }

    private static void pairs() {
        changes("copy", x -> x.copy(0, 0, 4, 0, 2, 5), 2, "bin4=5:13,5:14", "why 0");
        changes("copy in part", x -> x.copy(5, 0, 5, 1, 3, 0), 1, "bin5=0:1,0:1", "refused 2");
        changes("copy of a KIND", x -> x.copy(0, 0, 4, 0, 2, 3), 0, "why 2", "refused 2");
        changes("copy of no such n", x -> x.copy(0, 0, 4, 0, 41, 5), -1, "why 0");
        changes("paste", x -> one(x.paste(0, 0, 0, 1, 2)), 1, "bin0=4:13,4:13,4:14", "why 0");
        changes("paste of BOXES", x -> one(x.paste(1, 0, 1, 1, 2)), 1, "bin1=8:3,8:3,4:16", "why 0");
        changes("paste of BOXES back", x -> one(x.paste(1, 1, 1, 0, 2)), 1, "bin1=4:16,-2:0,-2:0", "why 0");
        changes("paste of WORDS", x -> one(x.paste(2, 0, 1, 1, 2)), 1, "bin1=8:3,8:5,-2:0", "why 0");
        changes("paste in part", x -> one(x.paste(1, 0, 2, 0, 2)), 0, "bin2=8:3,-2:0", "why 2", "refused 2");
        changes("paste of another sort", x -> one(x.paste(0, 0, 4, 0, 1)), 0, "why 2", "refused 2");
        changes("paste beyond the end", x -> one(x.paste(0, 0, 0, 1, 3)), 0, "refused 2");
        changes("paste of no such BIN", x -> one(x.paste(0, 0, 8, 0, 1)), 0, "why 0");
        changes("unlike", x -> x.unlike(0, 6), 0, "why 0");
        changes("unlike of the THING", x -> x.unlike(0, 3), -2, "why 2", "refused 2");
        changes("unlike of no such BIN", x -> x.unlike(0, 8), -2, "why 0");
    }

    private static void forms() {
        changes("load", x -> x.load(0, 0, 0), 2, "bin0=4:1,4:1541,4:15", "why 0");
        changes("load in part", x -> x.load(2, 64, 0), 0, "why 2", "refused 2");
        changes("load in part", x -> x.load(2, 64, 4), 1, "bin4=5:1,5:17", "why 2", "refused 2");
        changes("load at LINE", x -> x.load(0, 193, 0), -1, "why 5", "refused 2");
        changes("load of no such FORM", x -> x.load(3, 0, 0), -1, "why 0");
        changes("store", x -> x.store(2, 0, 88), 8, "byte88=13", "byte90=0", "byte91=0", "byte94=96", "byte95=65", "why 0");
        changes("store of what is over", x -> x.store(1, 4, 88), -1, "why 6", "refused 2");
        changes("store of a KIND", x -> x.store(0, 0, 88), -1, "why 2", "refused 2");
        changes("store at LINE", x -> x.store(1, 0, 197), -1, "why 5", "refused 2");
        changes("store of no such BIN", x -> x.store(1, 8, 88), -1, "why 0");
        changes("grow", x -> x.turn(2, 64, 88, true), 16, "byte88=1", "byte90=0", "byte91=0", "byte96=3", "why 0");
        changes("shrink", x -> x.turn(1, 88, 2, false), 4, "byte2=0", "byte3=0", "byte4=7", "byte5=8", "why 0");
        changes("shrink of what is over", x -> x.turn(1, 64, 2, false), -1, "why 6", "refused 2");
        changes("turn at LINE", x -> x.turn(1, 0, 193, true), -1, "why 5", "refused 2");
        changes("turn of no such FORM", x -> x.turn(-1, 0, 8, true), -1, "why 0");
    }

    private static void lists() {
        changes("list", x -> x.list(64, 1, 0), 3, "why 0");
        changes("list of what is no buffer", x -> x.list(0, 1, 0), -1, "why 5", "refused 2");
        changes("list of no such what", x -> x.list(64, 1, 3), -1, "why 0");
        changes("gather", x -> x.move(64, 1, 2, true), 3, "byte2=2", "byte3=3", "byte4=4", "why 0");
        changes("scatter", x -> x.move(64, 1, 88, false), 3, "byte1=0", "byte2=0", "byte3=7", "why 0");
        changes("gather at LINE", x -> x.move(64, 1, 198, true), -1, "why 5", "refused 2");
        changes("scatter of no such n", x -> x.move(64, 9, 88, false), -1, "why 0");
    }

    private static void state() {
        changes("sets", x -> one(x.sets(0, 5)), 1, "register0=5");
        changes("sets of none", x -> one(x.sets(8, 5)), 0);
        changes("frame", x -> x.frame(), 92, "frames 3", "byte96=21", "byte100=22", "byte104=23", "byte124=2", "why 0");
        changes("frame of what is over", x -> x.sets(3, 1L << 40) ? x.frame() : 0, -1, "register3=1099511627776", "why 6",
                "refused 2");
        changes("returns", x -> x.returns(), 1, "frames 1", "register3=0", "why 0");
        changes("returns of another", x -> x.poke(160, 3) ? x.returns() : 0, -1, "byte160=3", "why 2", "refused 2");
        changes("hold", x -> one(x.hold(0)), 1, "slot0");
        changes("hold", x -> one(x.hold(1)), 1, "slot1");
        changes("hold of none", x -> one(x.hold(2)), 0);
        changes("restore", x -> one(x.restore(0)), 1, "frames 1", "register2=0", "register3=0", "bin0=4:10,4:11,4:12",
                "bin1=why 3", "bin2=why 3", "bin3=why 3", "bin4=why 3", "bin5=why 3", "bin6=why 3", "byte90=0", "byte91=0",
                "byte132=0", "byte136=0", "byte160=0");
        changes("restore", x -> one(x.restore(1)), 1, "register3=0", "bin2=why 3", "bin3=why 3", "bin4=why 3",
                "bin5=why 3", "bin6=why 3", "byte91=0");
        changes("restore of none", x -> one(x.restore(2)), 0);
    }
}

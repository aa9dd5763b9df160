/** Promises 6 and 25 to 31: REGISTERS, FRAMES, SLOTS, counts and why(). */
public final class StateTest {
    public static void main(String[] args) {
        registers();
        frames();
        frameRefusals();
        returnRefusals();
        bigFrames();
        slots();
        slotsApart();
        counts();
        whys();
        Check.end("StateTest");
    }

    private static void registers() {
        GuestCalls x = new GuestCalls();
        for (int r = 0; r < 8; r++) {
            Check.due("sets", x.sets(r, Long.MIN_VALUE + r), true);
        }
        for (int r = 0; r < 8; r++) {
            Check.due("register", x.register(r), Long.MIN_VALUE + r);
        }
        Check.due("sets(8)", x.sets(8, 1), false);
        Check.due("sets(-1)", x.sets(-1, 1), false);
        Check.due("register(8)", x.register(8), 0);
        Check.due("register(-1)", x.register(-1), 0);
        x.poke(-1, 0);
        x.sets(8, 0);
        x.register(8);
        Check.due("why stays", x.why(), 5);
    }

    private static void frames() {
        GuestCalls x = Check.told("line 100;");
        for (int r = 0; r < 8; r++) {
            x.sets(r, r % 2 == 0 ? r + 1 : -r);
        }
        Check.due(x, "frame", x.frame(), 64, 0);
        Check.bytes(x, 64, 1, 0, 0, 0, 255, 255, 255, 255, 3, 0, 0, 0, 253, 255, 255, 255);
        Check.bytes(x, 92, 249, 255, 255, 255, 0, 0, 0, 0);
        Check.bytes(x, 96, 0, 0, 0, 0, 0);
        Check.due("a register stays", x.register(7), -7);
        x.sets(0, Integer.MIN_VALUE);
        x.sets(1, Integer.MAX_VALUE);
        Check.due(x, "frame", x.frame(), 28, 0);
        Check.bytes(x, 28, 0, 0, 0, 128, 255, 255, 255, 127);
        Check.due("frames ahead", x.byteAt(60), 1);
        x.sets(0, 5);
        Check.due(x, "returns", x.returns(), 1, 0);
        Check.due("register", x.register(0), Integer.MIN_VALUE);
        Check.due("register", x.register(1), Integer.MAX_VALUE);
        Check.poke(x, 64, 77);
        Check.due(x, "returns", x.returns(), 0, 0);
        Check.due("register as it lies", x.register(0), 77);
        Check.due("register with the sign", x.register(7), -7);
        Check.due("the frame's bytes stay", x.byteAt(64), 77);
    }

    private static void frameRefusals() {
        GuestCalls x = Check.told("line 71;");
        Check.due(x, "frame", x.frame(), 35, 0);
        Check.due(x, "no room", x.frame(), -1, 5);
        x.sets(7, 2147483648L);
        Check.due(x, "6 ahead of 5", x.frame(), -1, 6);
        x.sets(7, -2147483649L);
        Check.due(x, "6 ahead of 5", x.frame(), -1, 6);
        Check.due("frames", x.count(3), 1);
        Check.due("stack", x.count(4), 35);
        Check.due("a register stays", x.register(7), -2147483649L);
        GuestCalls y = Check.told("line 36;");
        Check.due(y, "just room", y.frame(), 0, 0);
        GuestCalls z = Check.told("line 35;");
        Check.due(z, "no room", z.frame(), -1, 5);
        Check.due("stack", z.count(4), 35);
    }

    private static void returnRefusals() {
        GuestCalls x = new GuestCalls();
        Check.due(x, "none", x.returns(), -1, 7);
        x.sets(0, 3);
        x.frame();
        x.sets(0, 4);
        for (int at = 252; at < 256; at++) {
            Check.poke(x, at, 128);
            Check.due(x, "another one", x.returns(), -1, 2);
            Check.poke(x, at, 0);
        }
        Check.due("a register stays", x.register(0), 4);
        Check.due("frames", x.count(3), 1);
        Check.due(x, "returns", x.returns(), 0, 0);
        Check.due("register", x.register(0), 3);
        Check.due(x, "none", x.returns(), -1, 7);
    }

    private static void bigFrames() {
        GuestCalls x = Check.told("big;");
        x.sets(0, 258);
        x.sets(1, -2);
        Check.due(x, "frame", x.frame(), 220, 0);
        Check.bytes(x, 220, 0, 0, 1, 2, 255, 255, 255, 254);
        Check.due(x, "frame", x.frame(), 184, 0);
        Check.bytes(x, 216, 0, 0, 0, 1);
        Check.due(x, "returns", x.returns(), 1, 0);
        Check.due("register", x.register(1), -2);
    }

    private static void slots() {
        GuestCalls x = Check.told("line 100;form a int;fill 0 1;");
        x.bin(0, 8, 2);
        x.put(0, 0, 8, 5);
        x.bin(1, 10, 0);
        x.sets(3, 33);
        x.frame();
        Check.due("restore", x.restore(1), false);
        Check.due("hold", x.hold(1), true);
        Check.due("hold(2)", x.hold(2), false);
        Check.due("hold(-1)", x.hold(-1), false);
        Check.due("restore(0)", x.restore(0), false);
        Check.due("restore(2)", x.restore(2), false);
        Check.due("restore(-1)", x.restore(-1), false);
        x.poke(0, 9);
        x.put(0, 0, 9, 0);
        x.bin(1, 11, 0);
        x.bin(2, 3, 4);
        x.sets(3, 44);
        x.frame();
        for (int times = 0; times < 2; times++) {
            x.poke(-1, 0);
            Check.due("restore", x.restore(1), true);
            Check.due("why stays", x.why(), 5);
            Check.due("byte", x.byteAt(0), 1);
            Check.due("word", x.box(0, 0, 1), 5);
            Check.due("bins", x.count(7), 3);
            Check.due("register", x.register(3), 33);
            Check.due("frames", x.count(3), 1);
            Check.due("stack", x.count(4), 64);
            Check.due("refusals go on", x.count(9), times + 1);
            x.bin(0, 11, 0);
            x.sets(3, 1);
            x.returns();
        }
        Check.due("no restore of frames taken back", x.count(3), 0);
    }

    private static void slotsApart() {
        GuestCalls x = new GuestCalls();
        x.bin(0, 5, 1);
        x.write(0, 0, 5, 1);
        x.hold(0);
        x.write(0, 0, 5, 2);
        x.hold(1);
        x.write(0, 0, 5, 3);
        x.restore(0);
        Check.due("slot 0", x.cell(0, 0, 5), 1);
        x.restore(1);
        Check.due("slot 1", x.cell(0, 0, 5), 2);
        x.hold(0);
        x.write(0, 0, 5, 4);
        x.restore(0);
        Check.due("slot 0 anew", x.cell(0, 0, 5), 2);
        Check.due("slots", x.count(6), 2);
    }

    private static void counts() {
        GuestCalls x = Check.told("big;line 50;form a int;form b ptr;fill 3 1 0 2;fill 60 1;");
        x.bin(0, 0, 0);
        x.bin(7, 10, 0);
        x.bin(2, 9, 1);
        x.bin(3, 9, 1);
        x.bin(3, 11, 1);
        x.hold(1);
        x.frame();
        x.feed(0, 0, 0, 0, 0);
        x.poke(-1, 0);
        x.load(0, 0, 5);
        x.load(9, 0, 5);
        int[] counts = {2, 50, 1, 1, 14, 20, 1, 133, 3, 2};
        for (int what = 0; what < 10; what++) {
            Check.due("count(" + what + ")", x.count(what), counts[what]);
        }
        Check.due("count(10)", x.count(10), -1);
        Check.due("count(-1)", x.count(-1), -1);
        Check.due("count(min)", x.count(Integer.MIN_VALUE), -1);
    }

    private static void whys() {
        GuestCalls x = Check.told("form a int;");
        x.returns();
        x.feed(0, 0, 0, 0, 0);
        x.back(20);
        x.place();
        x.layout(9, true, 0, 0);
        x.argument(9, 0, 0);
        x.byteAt(-1);
        x.bin(-1, 0, 0);
        x.register(-1);
        x.sets(-1, 0);
        x.hold(-1);
        x.restore(-1);
        x.count(-1);
        x.why();
        Check.due("why of the latest call that says it", x.why(), 7);
        Check.due("one refusal", x.count(9), 1);
        Check.due(x, "a call without refusal", x.poke(0, 0), true, 0);
        Check.due("one refusal still", x.count(9), 1);
    }
}

/** Promises 20 to 22: FORMS loaded, stored and turned. */
public final class FormTest {
    public static void main(String[] args) {
        loads();
        loadSigns();
        loadRefusals();
        noNumbers();
        stores();
        storeKinds();
        storeRefusals();
        grows();
        shrinks();
        turnRefusals();
        turnOnItself();
        Check.end("FormTest");
    }

    private static void loads() {
        GuestCalls x = Check.told("form a flag byte char short int;fill 2 2 255 255 255 255 4 9 9 4 3 2 1;");
        x.bin(0, 5, 9);
        x.write(0, 5, 5, 77);
        // a FLAG does not widen to a LONG
        Check.due(x, "load", x.load(0, 2, 0), 4, 2);
        Check.due("flag refused", x.cell(0, 0, 5), 0);
        Check.due("byte", x.cell(0, 1, 5), -1);
        Check.due("char", x.cell(0, 2, 5), 65535);
        Check.due("short", x.cell(0, 3, 5), 0x04FF);
        Check.due("int", x.cell(0, 4, 5), 0x01020304);
        Check.due("behind stays", x.cell(0, 5, 5), 77);
        GuestCalls y = Check.told("big;form a short int;form f flag 3;fill 0 255 254 9 9 1 2 3 4;fill 20 0 1 128;");
        y.bin(0, 4, 2);
        Check.due(y, "load", y.load(0, 0, 0), 2, 0);
        Check.due("short, highest first", y.cell(0, 0, 4), -2);
        Check.due("int, highest first", y.cell(0, 1, 4), 0x01020304);
        y.bin(1, 0, 3);
        Check.due(y, "load flags", y.load(1, 20, 1), 3, 0);
        Check.due("flag 0", y.cell(1, 0, 0), 0);
        Check.due("flag 1", y.cell(1, 1, 0), 1);
        Check.due("flag 128", y.cell(1, 2, 0), 1);
        y.bin(2, 0, 1);
        y.write(2, 0, 0, 1);
        Check.due("any flag that is set", y.unlike(1, 2), 0);
        y.store(1, 1, 30);
        Check.bytes(y, 30, 0, 1, 1);
    }

    private static void loadSigns() {
        GuestCalls x = Check.told("form a long ptr quad;fill 0 255 255 255 255 255 255 255 255 254 255 255 255 255 255 255 255;");
        x.bin(0, 5, 3);
        Check.due(x, "load", x.load(0, 0, 0), 3, 0);
        Check.due("long", x.cell(0, 0, 5), -1);
        Check.due("ptr", x.cell(0, 1, 5), 4294967295L);
        Check.due("quad", x.cell(0, 2, 5), -2);
        x.bin(1, 6, 3);
        Check.due(x, "load as floats", x.load(0, 0, 1), 3, 0);
        Check.due("ptr as a float", x.cell(1, 1, 6), 4294967296L);
        x.bin(2, 4, 3);
        Check.due(x, "load into ints", x.load(0, 0, 2), 0, 2);
        x.bin(3, 8, 3);
        Check.due(x, "load into any", x.load(0, 0, 3), 0, 2);
    }

    private static void loadRefusals() {
        GuestCalls x = Check.told("line 20;form a int 2;");
        x.bin(0, 4, 1);
        x.bin(1, 10, 0);
        Check.due(x, "too short a row", x.load(0, 0, 0), 1, 1);
        Check.due(x, "into the thing", x.load(0, 0, 1), 0, 2);
        Check.due(x, "into nothing", x.load(0, 0, 2), 0, 3);
        Check.due(x, "at the line", x.load(0, 12, 0), 1, 1);
        Check.due(x, "beyond the line", x.load(0, 13, 0), -1, 5);
        Check.due(x, "line ahead of all", x.load(0, 13, 2), -1, 5);
        Check.due(x, "below 0", x.load(0, -1, 0), -1, 5);
        Check.due(x, "far", x.load(0, Integer.MAX_VALUE, 0), -1, 5);
        Check.due(x, "no form", x.load(1, -1, 0), -1, 0);
        Check.due(x, "no bin", x.load(0, -1, 8), -1, 0);
        Check.due(x, "no bin", x.load(0, -1, -1), -1, 0);
    }

    private static void noNumbers() {
        GuestCalls x = Check.told("big;form f float 3;form d double 2;"
            + "fill 0 127 128 0 1 255 255 255 255 255 128 0 0;fill 16 127 240 0 0 0 0 0 1 255 240 0 0 0 0 0 0;");
        x.bin(0, 7, 3);
        Check.due(x, "floats", x.load(0, 0, 0), 1, 4);
        Check.due("infinite", x.cell(0, 2, 7), Long.MIN_VALUE);
        Check.due("untouched", x.cell(0, 0, 7), 0);
        Check.due(x, "doubles", x.load(1, 16, 0), 1, 4);
        Check.due("infinite", x.cell(0, 1, 7), Long.MIN_VALUE);
        Check.due(x, "ahead of nothing", x.load(0, 0, 7), 0, 4);
        Check.due(x, "behind nothing", x.load(0, 4, 7), 0, 4);
        Check.due(x, "nothing ahead", x.load(0, 8, 7), 0, 3);
        x.bin(1, 5, 1);
        Check.due(x, "ahead of kind", x.load(0, 0, 1), 0, 4);
    }

    private static void stores() {
        GuestCalls x = Check.told("form a byte int short;fill 0 9 9 9 9 9 9 9 9 9 9 9 9 9;");
        x.bin(0, 3, 3);
        x.write(0, 0, 3, 1);
        x.write(0, 1, 3, -2);
        x.write(0, 2, 3, 258);
        Check.due(x, "short as byte", x.store(0, 0, 0), -1, 2);
        Check.bytes(x, 0, 9, 9, 9, 9, 9, 9, 9, 9, 9, 9, 9, 9, 9);
        x.bin(0, 1, 3);
        x.write(0, 0, 1, 1);
        x.write(0, 1, 1, -2);
        x.write(0, 2, 1, -128);
        Check.due(x, "store", x.store(0, 0, 0), 12, 0);
        Check.bytes(x, 0, 1, 9, 9, 9, 254, 255, 255, 255, 128, 255, 9, 9, 9);
        GuestCalls y = Check.told("big;form a short float double;");
        y.bin(0, 1, 3);
        y.write(0, 0, 1, -2);
        y.write(0, 1, 1, 1);
        y.write(0, 2, 1, -1);
        Check.due(y, "store", y.store(0, 0, 100), 16, 0);
        Check.bytes(y, 100, 255, 254, 0, 0, 63, 128, 0, 0, 191, 240, 0, 0, 0, 0, 0, 0);
    }

    private static void storeKinds() {
        GuestCalls x = Check.told("line 200;form a long;form p ptr;form q quad;form f flag;form l long 2;");
        x.bin(0, 5, 1);
        long[] values = {0, -1, 200, 201, 2147483647L, 2147483648L, -2147483648L, -2147483649L, 4294967295L, Long.MIN_VALUE};
        for (long v : values) {
            x.write(0, 0, 5, v);
            boolean fits = v >= Integer.MIN_VALUE && v <= Integer.MAX_VALUE;
            boolean isLow = v >= 0 && v <= 200;
            Check.due(x, "long " + v, x.store(0, 0, 0), fits ? 4 : -1, fits ? 0 : 6);
            Check.due(x, "ptr " + v, x.store(1, 0, 0), isLow ? 4 : -1, isLow ? 0 : 6);
            Check.due(x, "quad " + v, x.store(2, 0, 0), 8, 0);
            Check.due("lowest byte", x.byteAt(0), v & 255);
            Check.due("highest byte", x.byteAt(7), v >>> 56);
        }
        x.bin(1, 0, 1);
        x.write(1, 0, 0, 1);
        Check.due(x, "flag", x.store(3, 1, 50), 1, 0);
        Check.due("flag", x.byteAt(50), 1);
        Check.due(x, "flag as long", x.store(0, 1, 50), -1, 2);
        // 6 of the first cell is told ahead of 1 of the second
        x.write(0, 0, 5, 1L << 40);
        Check.due(x, "over ahead", x.store(4, 0, 0), -1, 6);
        x.write(0, 0, 5, 1);
        Check.due(x, "place behind", x.store(4, 0, 0), -1, 1);
    }

    private static void storeRefusals() {
        GuestCalls x = Check.told("line 20;form a int 2;fill 0 7;");
        x.bin(0, 4, 1);
        x.bin(1, 10, 0);
        x.bin(2, 8, 2);
        x.bin(3, 4, 2);
        Check.due(x, "too short a row", x.store(0, 0, 0), -1, 1);
        Check.due(x, "from the thing", x.store(0, 1, 0), -1, 2);
        Check.due(x, "from any", x.store(0, 2, 0), -1, 2);
        Check.due(x, "from nothing", x.store(0, 7, 0), -1, 3);
        Check.due("nothing happened", x.byteAt(0), 7);
        Check.due(x, "at the line", x.store(0, 3, 12), 8, 0);
        Check.due(x, "beyond the line", x.store(0, 3, 13), -1, 5);
        Check.due(x, "line ahead of all", x.store(0, 7, -1), -1, 5);
        Check.due(x, "no form", x.store(1, 7, -1), -1, 0);
        Check.due(x, "no bin", x.store(0, 8, -1), -1, 0);
        x.store(0, 7, 0);
        Check.due(x, "no form", x.store(-1, 0, 0), -1, 0);
    }

    private static void grows() {
        GuestCalls x = Check.told("form a byte long ptr double short;"
            + "fill 0 5 9 9 9 254 255 255 255 253 255 255 255;fill 12 1 2 3 4 5 6 7 8 6 5;"
            + "fill 100 1 1 1 1 1 1 1 1 1 1 1 1 1 1 1 1;fill 132 1 1 1 1 1 1 1 1 1;");
        Check.due(x, "grow", x.turn(0, 0, 100, true), 40, 0);
        Check.bytes(x, 100, 5, 0, 0, 0, 0, 0, 0, 0, 254, 255, 255, 255, 255, 255, 255, 255);
        Check.bytes(x, 116, 253, 255, 255, 255, 0, 0, 0, 0, 1, 2, 3, 4, 5, 6, 7, 8);
        Check.bytes(x, 132, 6, 5, 0, 0, 0, 0, 0, 0, 1);
        GuestCalls y = Check.told("big;form a long ptr;fill 0 255 255 255 254 255 0 0 1;");
        Check.due(y, "grow, highest first", y.turn(0, 0, 100, true), 16, 0);
        Check.bytes(y, 100, 255, 255, 255, 255, 255, 255, 255, 254, 0, 0, 0, 0, 255, 0, 0, 1);
        GuestCalls z = Check.told("form a flag 2 float;fill 0 7 1 9 9 1 0 192 127;");
        Check.due(z, "bits are laid as they lie", z.turn(0, 0, 50, true), 8, 0);
        Check.bytes(z, 50, 7, 1, 0, 0, 1, 0, 192, 127);
    }

    private static void shrinks() {
        GuestCalls x = Check.told("line 200;form a byte long ptr;fill 0 3 9 9 9 9 9 9 9 255 255 255 255 255 255 255 255;"
            + "fill 16 200;fill 100 1 1 1 1 1 1 1 1 1 1 1 1 1;");
        Check.due(x, "shrink", x.turn(0, 0, 100, false), 12, 0);
        Check.bytes(x, 100, 3, 0, 0, 0, 255, 255, 255, 255, 200, 0, 0, 0, 1);
        Check.poke(x, 16, 201);
        Check.due(x, "a ptr that is not low", x.turn(0, 0, 100, false), -1, 6);
        Check.bytes(x, 100, 3, 0, 0, 0, 255, 255, 255, 255, 200, 0, 0, 0, 1);
        Check.poke(x, 16, 0, 0, 0, 0, 1);
        Check.due(x, "a ptr beyond 32 bits", x.turn(0, 0, 100, false), -1, 6);
        Check.poke(x, 20, 0, 0, 0, 128);
        Check.due(x, "a ptr below 0", x.turn(0, 0, 100, false), -1, 6);
        Check.poke(x, 23, 0);
        Check.due(x, "shrink", x.turn(0, 0, 100, false), 12, 0);
        Check.poke(x, 15, 127);
        Check.due(x, "a long beyond", x.turn(0, 0, 100, false), -1, 6);
        Check.poke(x, 8, 255, 255, 255, 255, 0, 0, 0, 0);
        Check.due(x, "a long just beyond", x.turn(0, 0, 100, false), -1, 6);
        Check.poke(x, 11, 127);
        Check.due(x, "the greatest long", x.turn(0, 0, 100, false), 12, 0);
    }

    private static void turnRefusals() {
        GuestCalls x = Check.told("line 100;form a ptr;fill 0 255 255 255 255 255;");
        Check.due(x, "read at the line", x.turn(0, 96, 0, true), 8, 0);
        Check.due(x, "read beyond", x.turn(0, 97, 0, true), -1, 5);
        Check.due(x, "laid at the line", x.turn(0, 0, 92, true), 8, 0);
        Check.due(x, "laid beyond", x.turn(0, 0, 93, true), -1, 5);
        Check.due(x, "wide read beyond", x.turn(0, 93, 0, false), -1, 5);
        Check.due(x, "small laid beyond", x.turn(0, 0, 97, false), -1, 5);
        Check.due(x, "below", x.turn(0, -1, 0, false), -1, 5);
        Check.due(x, "laid below", x.turn(0, 0, Integer.MIN_VALUE, true), -1, 5);
        Check.poke(x, 0, 255, 255, 255, 255, 255);
        Check.due(x, "line ahead of over", x.turn(0, 0, 97, false), -1, 5);
        Check.due(x, "over", x.turn(0, 0, 96, false), -1, 6);
        Check.due(x, "no form", x.turn(1, 0, 0, true), -1, 0);
        Check.due(x, "no form", x.turn(-1, -1, 0, true), -1, 0);
    }

    private static void turnOnItself() {
        GuestCalls x = Check.told("form a ptr 2;fill 0 1 0 0 0 2;");
        Check.due(x, "grow in place", x.turn(0, 0, 0, true), 16, 0);
        Check.bytes(x, 0, 1, 0, 0, 0, 0, 0, 0, 0, 2, 0, 0, 0, 0, 0, 0, 0);
        Check.due(x, "grow a little on", x.turn(0, 0, 2, true), 16, 0);
        Check.bytes(x, 0, 1, 0, 1, 0, 0, 0, 0, 0, 0, 0, 0, 0);
        Check.due(x, "shrink in place", x.turn(0, 2, 4, false), 8, 0);
        Check.bytes(x, 0, 1, 0, 1, 0, 1, 0, 0, 0, 0, 0, 0, 0);
    }
}

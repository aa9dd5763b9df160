/** Promises 1 to 8 and 25 to 31, sentence by sentence. */
final class StateSentences {
    private StateSentences() {
    }

    static void all() {
        newObject();
        feeds();
        feedsTooMany();
        backs();
        backsTooMany();
        reads();
        places();
        whyOfTheLatest();
        whyOfNone();
        layoutOfMembers();
        layoutOfForms();
        noLayout();
        argumentRegisters();
        argumentOffsets();
        argumentsTaken();
        noArgument();
        registers();
        noRegister();
        sets();
        setsNone();
        frames();
        framesRefused();
        returns();
        returnsRefused();
        holds();
        holdsNot();
        restores();
        restoresNot();
        counts();
        noCount();
        afterManyCalls();
    }

    private static void newObject() {
        Doc.says(1, "No FORMS;");
        Check.due("FORMS", new GuestCalls().count(0), 0);
        Check.due("FORM 0", new GuestCalls().layout(0, false, -1, 0), -1);
        Doc.says(1, "all bytes 0;");
        GuestCalls x = new GuestCalls();
        for (int address = 0; address < 256; address++) {
            Check.due("byteAt(" + address + ")", x.byteAt(address), 0);
        }
        Check.due("bytes that are not 0", x.count(8), 0);
        Doc.says(1, "LINE 256,");
        Check.due("LINE", new GuestCalls().count(1), 256);
        Check.due("poke(255)", new GuestCalls().poke(255, 1), true);
        Doc.says(1, "the lowest byte first.");
        GuestCalls y = new GuestCalls();
        y.sets(0, 0x04030201);
        Check.due("frame", y.frame(), 220);
        Check.bytes(y, 220, 1, 2, 3, 4);
        Check.due("BIG", y.count(2), 0);
    }

    private static int feed(GuestCalls x, String twenty) {
        int[] fours = new int[5];
        for (int i = 0; i < 20; i++) {
            fours[i / 4] = fours[i / 4] << 8 | twenty.charAt(i);
        }
        return x.feed(fours[0], fours[1], fours[2], fours[3], fours[4]);
    }

    private static void feeds() {
        Doc.says(2, "Twenty bytes, the highest of a first, come behind the tape: how many it has.");
        GuestCalls x = new GuestCalls();
        Check.due("feed", feed(x, "fill 0 11 12 13 14 1"), 20);
        Check.due("feed", feed(x, "5 16 17 18 19 20 21 "), 40);
        Check.due("feed", feed(x, ";;                  "), 60);
        Check.due("read", x.read(), 1);
        Check.due("place", x.place(), 41);
        feed(x, "fill 0 11 12 13 14 1");
        feed(x, "5 16 17 18 19 20 21 ");
        Check.due("feed", feed(x, ";                   "), 60);
        Check.due("read", x.read(), 0);
        Check.bytes(x, 0, 11, 12, 13, 14, 15, 16, 17, 18, 19, 20, 21, 0);
        Check.due("bytes of each worth", x.feed(0x6269673B, -1, Integer.MIN_VALUE, 0x807F00FF, 0), 20);
        Check.due("read", x.read(), 1);
        Check.due("place", x.place(), 4);
    }

    private static void feedsTooMany() {
        Doc.says(2, "NONE, and nothing comes, if it would have more than 2,000.");
        GuestCalls x = new GuestCalls();
        for (int i = 1; i <= 100; i++) {
            Check.due("feed " + i, feed(x, i == 1 ? "big;                " : " ".repeat(20)), 20 * i);
        }
        Check.due("feed to 2,020", feed(x, "line 5;             "), -1);
        Check.due("the tape", x.count(5), 2000);
        for (int n = 1; n < 20; n++) {
            x.back(1);
            Check.due("feed to " + (2020 - n), feed(x, "line 5;             "), -1);
            Check.due("the tape", x.count(5), 2000 - n);
        }
        x.back(1);
        Check.due("feed to 2,000", feed(x, " line 9;            "), 2000);
        Check.due("feed to 2,020", x.feed(0, 0, 0, 0, 0), -1);
        Check.due("read", x.read(), 0);
        Check.due("LINE", x.count(1), 9);
        Check.due("BIG", x.count(2), 1);
    }

    private static void backs() {
        Doc.says(3, "The last n bytes of the tape go: how many it has.");
        GuestCalls x = new GuestCalls();
        Check.due("back(0) of none", x.back(0), 0);
        Check.lay(x, "big;line 123;x");
        Check.due("back(0)", x.back(0), 14);
        Check.due("back(1)", x.back(1), 13);
        Check.due("back(2)", x.back(2), 11);
        Check.lay(x, ";");
        Check.due("read", x.read(), 0);
        Check.due("LINE", x.count(1), 12);
        Check.lay(x, "line 1234");
        Check.due("back(2)", x.back(2), 7);
        Check.due("read of line 12", x.read(), 1);
        Check.due("what went is no part of it", x.place(), 7);
        Check.lay(x, "bigbig");
        Check.due("back(3)", x.back(3), 3);
        Check.due("read of big", x.read(), 1);
        Check.due("what went is no part of it", x.place(), 3);
        feed(x, "xxxxxxxxxxxxxxxxxxxx");
        Check.due("back(20)", x.back(20), 0);
        Check.due("read of none", x.read(), 0);
    }

    private static void backsTooMany() {
        Doc.says(3, "NONE, and nothing goes, if it has not so many, or n is below 0.");
        GuestCalls x = new GuestCalls();
        Check.due("back(1) of none", x.back(1), -1);
        Check.due("back(-1) of none", x.back(-1), -1);
        Check.lay(x, "line 7;");
        for (int n : new int[] {8, 9, 20, 2000, Integer.MAX_VALUE, -1, -7, -2000, Integer.MIN_VALUE}) {
            Check.due("back(" + n + ")", x.back(n), -1);
            Check.due("the tape", x.count(5), 7);
        }
        Check.due("read", x.read(), 0);
        Check.due("LINE", x.count(1), 7);
    }

    private static void reads() {
        Doc.says(4, "The tape, which is empty then, is read: 0, or the number of its FAULT.");
        String[] texts = {"", "big;", "x", "fill 0" + " 1".repeat(17) + ";", "form a int;form a int;", "line 0;"};
        int[] dues = {0, 0, 1, 2, 3, 5};
        GuestCalls x = new GuestCalls();
        for (int t = 0; t < texts.length; t++) {
            Check.lay(x, texts[t]);
            Check.due("read of " + texts[t], x.read(), dues[t]);
            Check.due("the tape", x.count(5), 0);
            Check.due("back(1)", x.back(1), -1);
        }
        Check.lay(x, "line 9;");
        Check.due("what was read is gone", x.read(), 0);
        Check.due("LINE", x.count(1), 9);
        Check.due("an empty text", x.read(), 0);
        Check.due("LINE as at first", x.count(1), 256);
    }

    private static void places() {
        Doc.says(5, "The byte of the latest read()'s FAULT; NONE without.");
        GuestCalls x = new GuestCalls();
        Check.due("no read yet", x.place(), -1);
        String[] texts = {"x", " x", "", "big;", "big", "line 0;", "form a int;form a int;", " ".repeat(1999) + "x", "big;"};
        int[] dues = {0, 1, -1, -1, 3, 5, 16, 1999, -1};
        for (int t = 0; t < texts.length; t++) {
            int before = x.place();
            Check.lay(x, texts[t]);
            Check.due("ahead of read", x.place(), before);
            x.read();
            Check.due("place of " + texts[t], x.place(), dues[t]);
            Check.due("place again", x.place(), dues[t]);
        }
    }

    private static GuestCalls refused() {
        GuestCalls x = Check.told("line 100;form a int;");
        x.bin(0, 4, 2);
        x.returns();
        return x;
    }

    private static void whyOfTheLatest() {
        Doc.says(6, "The REFUSAL of the latest call of those below that say \"(why)\";");
        GuestCalls x = refused();
        x.feed(0, 0, 0, 0, 0);
        x.back(20);
        x.place();
        x.layout(9, true, 0, 0);
        x.argument(9, 0, 0);
        x.byteAt(-1);
        x.bin(-1, 0, 0);
        x.bin(0, 4, 2);
        x.register(-1);
        x.sets(-1, 0);
        x.hold(-1);
        x.hold(0);
        x.restore(1);
        x.restore(0);
        x.count(-1);
        Check.due("calls that say no (why)", x.why(), 7);
        Check.due("why() itself", x.why(), 7);
        Check.due("the latest", x.length(7), -1);
        Check.due("the latest", x.why(), 3);
    }

    private static void whyOfNone() {
        Doc.says(6, "0: there was none, no such call yet.");
        Check.due("no such call yet", new GuestCalls().why(), 0);
        Check.due("no such call yet", Check.told("big;").why(), 0);
        for (int call = 0; call < 15; call++) {
            GuestCalls x = refused();
            Check.due("a REFUSAL ahead", x.why(), 7);
            callOf(x, call);
            Check.due("none of call " + call, x.why(), 0);
        }
        GuestCalls y = refused();
        y.frame();
        y.length(7);
        y.returns();
        Check.due("none of returns()", y.why(), 0);
    }

    private static void callOf(GuestCalls x, int call) {
        switch (call) {
            case 0 -> x.poke(0, 1);
            case 1 -> x.length(0);
            case 2 -> x.cell(0, 0, 4);
            case 3 -> x.write(0, 0, 4, 1);
            case 4 -> x.box(0, 0, 0);
            case 5 -> x.put(0, 0, 4, 1);
            case 6 -> x.copy(0, 0, 0, 1, 1, 4);
            case 7 -> x.paste(0, 0, 0, 1, 1);
            case 8 -> x.unlike(0, 0);
            case 9 -> x.load(0, 0, 0);
            case 10 -> x.store(0, 0, 0);
            case 11 -> x.turn(0, 0, 8, true);
            case 12 -> x.list(0, 0, 0);
            case 13 -> x.move(0, 0, 0, true);
            default -> x.frame();
        }
    }

    private static void layoutOfMembers() {
        Doc.says(7, "LAYOUT of a FORM: of MEMBER m what 0 KIND, 1 CELLS, 2 OFFSET, 3 bytes of all its CELLS;");
        GuestCalls x = Check.told("form z int;form a flag long 3 quad 2 ptr char 4;");
        int[][] small = {{0, 1, 0, 1}, {5, 3, 4, 12}, {8, 2, 16, 16}, {9, 1, 32, 4}, {2, 4, 36, 8}};
        int[][] wide = {{0, 1, 0, 1}, {5, 3, 8, 24}, {8, 2, 32, 16}, {9, 1, 48, 8}, {2, 4, 56, 8}};
        for (int m = 0; m < 5; m++) {
            for (int what = 0; what < 4; what++) {
                Check.due("SMALL " + m + ", " + what, x.layout(1, false, m, what), small[m][what]);
                Check.due("WIDE " + m + ", " + what, x.layout(1, true, m, what), wide[m][what]);
            }
        }
    }

    private static void layoutOfForms() {
        Doc.says(7, "of the FORM (m NONE) what 0 MEMBERS, 1 CELLS, 2 the greatest number of which it lies at a multiple, 3 SIZE.");
        GuestCalls x = Check.told("form b flag 3;form c char flag;form d quad;form a flag long 3 quad 2 ptr char 4;form e quad flag;");
        int[][] small = {{1, 3, 1, 3}, {2, 2, 2, 4}, {1, 1, 4, 8}, {5, 11, 4, 44}, {2, 2, 4, 12}};
        int[][] wide = {{1, 3, 1, 3}, {2, 2, 2, 4}, {1, 1, 8, 8}, {5, 11, 8, 64}, {2, 2, 8, 16}};
        for (int f = 0; f < 5; f++) {
            for (int what = 0; what < 4; what++) {
                Check.due("SMALL " + f + ", " + what, x.layout(f, false, -1, what), small[f][what]);
                Check.due("WIDE " + f + ", " + what, x.layout(f, true, GuestCalls.NONE, what), wide[f][what]);
            }
        }
    }

    private static void noLayout() {
        Doc.says(7, "NONE: no such ones.");
        GuestCalls x = Check.told("form a int;form b int long;");
        int[] lows = {-1, Integer.MIN_VALUE};
        int[] highs = {2, 3, 6, Integer.MAX_VALUE};
        for (boolean wide : new boolean[] {false, true}) {
            for (int f : highs) {
                Check.due("FORM " + f, x.layout(f, wide, 0, 0), -1);
                Check.due("FORM " + f, x.layout(f, wide, -1, 0), -1);
                Check.due("MEMBER " + f, x.layout(1, wide, f, 0), -1);
                Check.due("what " + (f + 2), x.layout(0, wide, 0, f == Integer.MAX_VALUE ? f : f + 2), -1);
                Check.due("what " + (f + 2), x.layout(0, wide, -1, f == Integer.MAX_VALUE ? f : f + 2), -1);
            }
            for (int f : lows) {
                Check.due("FORM " + f, x.layout(f, wide, 0, 0), -1);
                Check.due("what " + f, x.layout(0, wide, 0, f), -1);
                Check.due("what " + f, x.layout(0, wide, -1, f), -1);
            }
            Check.due("MEMBER 1 of another FORM", x.layout(0, wide, 1, 0), -1);
            Check.due("MEMBER -2", x.layout(0, wide, -2, 0), -1);
            Check.due("MEMBER least", x.layout(0, wide, Integer.MIN_VALUE, 0), -1);
        }
        Check.due("no FORMS at all", new GuestCalls().layout(0, true, -1, 0), -1);
    }

    private static void arguments(int what, int... dues) {
        GuestCalls x = Check.told("form z int;form a byte quad int int char 2 double;");
        for (int c = 0; c < dues.length; c++) {
            Check.due("ARGUMENT " + c, x.argument(1, c, what), dues[c]);
        }
    }

    private static void argumentRegisters() {
        Doc.says(8, "ARGUMENT c of a FORM: what 0 its first register (-2: it lies on the stack),");
        arguments(0, 0, 2, 4, 5, -2, -2, -2);
    }

    private static void argumentOffsets() {
        Doc.says(8, "1 its offset on the stack (-2: it is in registers),");
        arguments(1, -2, -2, -2, -2, 0, 4, 8);
    }

    private static void argumentsTaken() {
        Doc.says(8, "2 how many registers are taken, up to it, with those left out.");
        arguments(2, 1, 4, 5, 6, 6, 6, 6);
        GuestCalls x = Check.told("form a int double int quad int;");
        int[] dues = {1, 4, 5, 5, 5};
        for (int c = 0; c < dues.length; c++) {
            Check.due("taken up to " + c, x.argument(0, c, 2), dues[c]);
        }
    }

    private static void noArgument() {
        Doc.says(8, "NONE: no such ones.");
        GuestCalls x = Check.told("form a int 2;form b int 4;");
        int[][] bad = {{2, 0, 0}, {-1, 0, 0}, {0, 2, 0}, {0, 3, 0}, {1, 4, 0}, {0, -1, 0}, {0, 0, 3}, {0, 0, -1}, {0, 0, -2},
            {Integer.MAX_VALUE, 0, 0}, {Integer.MIN_VALUE, 0, 0}, {0, Integer.MAX_VALUE, 0}, {0, Integer.MIN_VALUE, 0},
            {0, 0, Integer.MAX_VALUE}, {0, 0, Integer.MIN_VALUE}, {0, 32, 0}};
        for (int[] b : bad) {
            Check.due("argument " + b[0] + ", " + b[1] + ", " + b[2], x.argument(b[0], b[1], b[2]), -1);
        }
        Check.due("the last one", x.argument(0, 1, 0), 1);
        Check.due("the last one", x.argument(1, 3, 0), 3);
    }

    private static void registers() {
        Doc.says(25, "A REGISTER (0 .. 7);");
        GuestCalls x = new GuestCalls();
        for (int r = 0; r < 8; r++) {
            Check.due("at first", x.register(r), 0);
            x.sets(r, r - 3);
            Check.due("REGISTER " + r, x.register(r), r - 3);
        }
    }

    private static void noRegister() {
        Doc.says(25, "0 of no such one.");
        GuestCalls x = new GuestCalls();
        for (int r = 0; r < 8; r++) {
            x.sets(r, 9);
        }
        for (int r : new int[] {-1, 8, Integer.MAX_VALUE, Integer.MIN_VALUE}) {
            Check.due("REGISTER " + r, x.register(r), 0);
        }
    }

    private static void sets() {
        Doc.says(26, "A REGISTER becomes v: true;");
        GuestCalls x = new GuestCalls();
        for (long v : new long[] {Long.MAX_VALUE, Long.MIN_VALUE, -1, 1L << 32, 0}) {
            for (int r = 0; r < 8; r += 7) {
                Check.due("sets " + r, x.sets(r, v), true);
                Check.due("REGISTER " + r, x.register(r), v);
                Check.due("beside it", x.register(r == 0 ? 1 : 6), 0);
            }
        }
    }

    private static void setsNone() {
        Doc.says(26, "false: no such one.");
        GuestCalls x = new GuestCalls();
        for (int r : new int[] {-1, 8, Integer.MAX_VALUE, Integer.MIN_VALUE}) {
            Check.due("REGISTER " + r, x.sets(r, 5), false);
        }
        Check.same("behind all", x, new GuestCalls());
    }

    private static void frames() {
        Doc.says(27, "A FRAME is built below the STACK: its address;");
        GuestCalls x = Check.told("line 110;fill 110 9;fill 0 7 7;");
        x.sets(0, Integer.MAX_VALUE);
        x.sets(7, Integer.MIN_VALUE);
        for (int f = 0; f < 3; f++) {
            Check.due(x, "frame " + f, x.frame(), 74 - 36 * f, 0);
            Check.due("FRAMES", x.count(3), f + 1);
            Check.due("STACK", x.count(4), 74 - 36 * f);
            Check.bytes(x, 74 - 36 * f, 255, 255, 255, 127, 0);
            Check.bytes(x, 102 - 36 * f, 0, 0, 0, 128, f, 0, 0, 0);
            Check.due("REGISTER", x.register(7), Integer.MIN_VALUE);
        }
        Check.bytes(x, 0, 7, 7);
        Check.due("LINE", x.byteAt(110), 9);
        Check.due("just room", Check.told("line 36;").frame(), 0);
        Check.due("all room", new GuestCalls().frame(), 220);
    }

    private static void framesRefused() {
        Doc.says(27, "NONE, and nothing happens (why: 6 a REGISTER that does not fit into 32 bits, then LINE: it would begin below 0).");
        for (int line : new int[] {1, 35, 71}) {
            for (long v : new long[] {0, 2147483647L, 2147483648L, -2147483648L, -2147483649L, 1L << 32, Long.MIN_VALUE}) {
                for (int r = 0; r < 8; r += 7) {
                    GuestCalls x = Check.told("line " + line + ";fill 0 1 2 3;");
                    GuestCalls y = Check.told("line " + line + ";fill 0 1 2 3;");
                    x.frame();
                    y.frame();
                    x.sets(r, v);
                    y.sets(r, v);
                    Check.due(x, "frame " + v, x.frame(), -1, v == (int) v ? 5 : 6);
                    Check.same("behind frame", x, y);
                }
            }
        }
        GuestCalls z = new GuestCalls();
        z.sets(3, 1L << 31);
        Check.due(z, "though there is room", z.frame(), -1, 6);
        Check.due("nothing is laid", z.count(8), 0);
    }

    private static void returns() {
        Doc.says(28, "The latest FRAME is taken back: REGISTERS are what lies in it (with the sign): how many there are left;");
        GuestCalls x = new GuestCalls();
        for (int f = 0; f < 3; f++) {
            for (int r = 0; r < 8; r++) {
                x.sets(r, r % 2 == 0 ? 100 * f + r : -100 * f - r);
            }
            x.frame();
        }
        for (int r = 0; r < 8; r++) {
            x.sets(r, Long.MAX_VALUE);
        }
        Check.poke(x, 148, 5, 0, 0, 128);
        for (int f = 2; f >= 0; f--) {
            Check.due(x, "returns", x.returns(), f, 0);
            Check.due("FRAMES", x.count(3), f);
            Check.due("STACK", x.count(4), 256 - 36 * f);
            Check.due("REGISTER 0", x.register(0), f == 2 ? 5 - (1L << 31) : 100 * f);
            for (int r = 1; r < 8; r++) {
                Check.due("REGISTER " + r, x.register(r), r % 2 == 0 ? 100 * f + r : -100 * f - r);
            }
        }
    }

    private static void returnsRefused() {
        Doc.says(28, "NONE, and nothing happens (why: 7 there is none, then 2: its last INT is another one than how many were ahead).");
        GuestCalls x = new GuestCalls();
        Check.due(x, "none", x.returns(), -1, 7);
        Check.same("behind returns", x, new GuestCalls());
        for (int f = 1; f <= 2; f++) {
            for (int at = 0; at < 4; at++) {
                GuestCalls y = new GuestCalls();
                GuestCalls z = new GuestCalls();
                for (GuestCalls one : new GuestCalls[] {y, z}) {
                    for (int times = 0; times < f; times++) {
                        one.sets(0, 7);
                        one.frame();
                    }
                    one.sets(0, 8);
                    one.poke(288 - 36 * f + at, at == 0 ? f : 128);
                }
                Check.due(y, "another one", y.returns(), -1, 2);
                Check.same("behind returns", y, z);
                Check.poke(y, 288 - 36 * f + at, at == 0 ? f - 1 : 0);
                Check.due(y, "the one", y.returns(), f - 1, 0);
                Check.due("REGISTER", y.register(0), 7);
            }
        }
        GuestCalls none = new GuestCalls();
        none.frame();
        none.returns();
        none.poke(252, 9);
        Check.due(none, "none left, and another INT there", none.returns(), -1, 7);
    }

    /** An object with something of all that a SLOT holds. */
    private static GuestCalls full() {
        GuestCalls x = Check.told("line 200;form a int;fill 0 1;fill 210 3;");
        x.bin(0, 8, 3);
        x.put(0, 0, 8, 5);
        x.put(0, 1, 4, 5);
        x.put(0, 2, 0, 5);
        x.bin(1, 10, 0);
        Check.row(x, 2, 7, 1, 2);
        x.bin(3, 9, 1);
        x.sets(3, 1L << 40);
        x.sets(4, 2);
        x.sets(3, 33);
        x.frame();
        x.sets(3, 1L << 40);
        return x;
    }

    private static void change(GuestCalls x) {
        x.poke(0, 9);
        x.poke(199, 9);
        x.put(0, 0, 0, 5);
        x.put(0, 1, 9, 5);
        x.put(0, 2, 8, 1);
        x.bin(1, 11, 0);
        x.write(2, 1, 7, 9);
        x.bin(3, 10, 1);
        x.bin(7, 3, 2);
        x.sets(3, 44);
        x.sets(4, 45);
        x.frame();
        x.frame();
    }

    private static void holds() {
        Doc.says(29, "MEMORY, BINS, REGISTERS, FRAMES as they are are held in a SLOT (0, 1): true;");
        for (int slot = 0; slot < 2; slot++) {
            GuestCalls x = full();
            Check.due("hold", x.hold(slot), true);
            Check.due("SLOTS", x.count(6), 1);
            Check.same("behind hold", x, heldToo(full(), slot));
            GuestCalls y = heldTwice(slot);
            y.restore(slot);
            Check.same("what was held", y, heldToo(heldToo(full(), 0), 1));
            GuestCalls z = heldTwice(slot);
            z.restore(1 - slot);
            GuestCalls changed = heldToo(heldToo(full(), 0), 1);
            change(changed);
            Check.same("what was held behind it", z, changed);
        }
        GuestCalls z = heldToo(full(), 0);
        change(z);
        z.hold(0);
        z.restore(0);
        GuestCalls changed = heldToo(full(), 0);
        change(changed);
        Check.same("held over what was held", z, changed);
    }

    /** As it was, in one SLOT, and as it became, in the other. */
    private static GuestCalls heldTwice(int slot) {
        GuestCalls x = heldToo(full(), slot);
        change(x);
        Check.due("hold anew", x.hold(1 - slot), true);
        return x;
    }

    private static GuestCalls heldToo(GuestCalls x, int slot) {
        x.hold(slot);
        return x;
    }

    private static void holdsNot() {
        Doc.says(29, "false: no such one.");
        GuestCalls x = full();
        for (int slot : new int[] {-1, 2, Integer.MAX_VALUE, Integer.MIN_VALUE}) {
            Check.due("hold " + slot, x.hold(slot), false);
        }
        Check.due("SLOTS", x.count(6), 0);
        Check.same("behind all", x, full());
    }

    private static void restores() {
        Doc.says(30, "All is as a SLOT holds it (it stays there): true;");
        GuestCalls x = full();
        x.hold(1);
        for (int times = 0; times < 3; times++) {
            change(x);
            Check.due("restore", x.restore(1), true);
            Check.due("SLOTS", x.count(6), 1);
        }
        Check.same("behind all", x, heldToo(full(), 1));
        Check.due(x, "the FRAME that was held", x.returns(), 0, 0);
        Check.due("its REGISTER", x.register(3), 33);
        // a SLOT holds what was, not what comes of it
        GuestCalls z = heldToo(full(), 1);
        z.restore(1);
        change(z);
        GuestCalls y = heldToo(full(), 1);
        change(y);
        Check.same("changed behind it", z, y);
    }

    private static void restoresNot() {
        Doc.says(30, "false, and nothing happens: no such one, it holds nothing.");
        GuestCalls x = full();
        x.hold(0);
        change(x);
        for (int slot : new int[] {1, 2, -1, Integer.MAX_VALUE, Integer.MIN_VALUE}) {
            Check.due("restore " + slot, x.restore(slot), false);
        }
        GuestCalls y = heldToo(full(), 0);
        change(y);
        Check.same("behind all", x, y);
        Check.due("of a new object", new GuestCalls().restore(0), false);
    }

    private static void counts() {
        Doc.says(31, "0 FORMS, 1 LINE, 2 BIG (1, 0), 3 FRAMES,");
        GuestCalls x = Check.told("big;line 80;form a int;form b ptr;fill 3 1 0 2;fill 80 5;");
        int[] dues = {2, 80, 1, 0};
        for (int what = 0; what < 4; what++) {
            Check.due("count " + what, x.count(what), dues[what]);
        }
        Doc.says(31, "4 the STACK's address (LINE less 36 for each FRAME),");
        Check.due("no FRAME", x.count(4), 80);
        x.frame();
        x.frame();
        Check.due("two FRAMES", x.count(4), 8);
        Check.due("two FRAMES", x.count(3), 2);
        x.frame();
        Check.due("a third is REFUSED", x.count(3), 2);
        x.returns();
        Check.due("one FRAME", x.count(4), 44);
        Doc.says(31, "5 bytes on the tape,");
        Check.lay(x, "big;x");
        Check.due("tape", x.count(5), 5);
        Doc.says(31, "6 SLOTS that hold something,");
        Check.due("none", x.count(6), 0);
        x.hold(1);
        Check.due("one", x.count(6), 1);
        x.hold(1);
        Check.due("the same one", x.count(6), 1);
        x.hold(0);
        Check.due("two", x.count(6), 2);
        countsOfBinsAndBytes();
        countsOfRefusals();
    }

    private static void countsOfBinsAndBytes() {
        Doc.says(31, "7 BINS that hold something (bits),");
        GuestCalls x = new GuestCalls();
        int bits = 0;
        for (int b = 7; b >= 0; b--) {
            Check.due("bits", x.count(7), bits);
            x.bin(b, b == 3 ? 10 : b, 0);
            bits |= 1 << b;
        }
        Check.due("all BINS", x.count(7), 255);
        x.bin(0, 11, 0);
        x.bin(3, 11, 0);
        Check.due("but two", x.count(7), 246);
        Doc.says(31, "8 bytes of the MEMORY that are not 0,");
        GuestCalls y = Check.told("line 100;fill 0 1 0 255;fill 254 128 1;");
        Check.due("also beyond LINE", y.count(8), 4);
        y.poke(0, 0);
        y.poke(50, 256);
        y.poke(51, -1);
        Check.due("bytes", y.count(8), 4);
    }

    private static void countsOfRefusals() {
        Doc.says(31, "9 how many calls were REFUSED by now (each once; why() above 0).");
        GuestCalls x = Check.told("form a int 4;");
        Check.due("none", x.count(9), 0);
        Check.row(x, 0, 4, 1, 2);
        x.cell(0, 0, 9);
        x.load(9, 0, 0);
        x.paste(9, 0, 0, 0, 0);
        x.restore(0);
        x.sets(9, 9);
        x.bin(9, 9, 9);
        x.byteAt(999);
        Check.due("answers of no such ones are none", x.count(9), 0);
        Check.due(x, "a call REFUSED in two CELLS", x.load(0, 0, 0), 2, 1);
        Check.due("once", x.count(9), 1);
        Check.due(x, "a call REFUSED in four CELLS", x.load(0, 0, 7), 0, 3);
        Check.due("once more", x.count(9), 2);
        Check.due(x, "a copy REFUSED in a CELL", x.copy(0, 0, 0, 1, 2, 4), 1, 1);
        Check.due("once more", x.count(9), 3);
        x.why();
        x.why();
        x.poke(0, 0);
        Check.due("no more", x.count(9), 3);
        x.hold(0);
        x.returns();
        x.restore(0);
        Check.due("also behind restore()", x.count(9), 4);
    }

    private static void noCount() {
        Doc.says(31, "NONE for others.");
        GuestCalls x = full();
        for (int what : new int[] {-1, 10, 11, Integer.MAX_VALUE, Integer.MIN_VALUE}) {
            Check.due("count " + what, x.count(what), -1);
        }
    }

    private static void afterManyCalls() {
        Check.about("An object is used for at most 512 calls");
        GuestCalls x = new GuestCalls();
        for (int call = 1; call < 512; call++) {
            x.poke(-1, 0);
        }
        Check.due("the 512th call", x.count(9), 511);
    }
}

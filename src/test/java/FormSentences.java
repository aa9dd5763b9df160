/** Promises 20 to 24, sentence by sentence. */
final class FormSentences {
    private static final int LEAST = Integer.MIN_VALUE;
    private static final int MOST = Integer.MAX_VALUE;
    private static final int[] BEYOND = {-1, LEAST, MOST, 255, 256};

    private FormSentences() {
    }

    static void all() {
        loads();
        loadsKinds();
        loadsCounted();
        loadsRefused();
        loadsBeyondLine();
        noLoads();
        stores();
        storesRefused();
        storesOver();
        noStores();
        turns();
        turnsIntoTheGaps();
        turnsReadAhead();
        turnsRefused();
        turnsOver();
        noTurns();
        lists();
        listsRefused();
        noLists();
        listsOfNoBytes();
        gathers();
        scatters();
        movesReadAhead();
        movesRefused();
        noMoves();
    }

    private static void loads() {
        Doc.says(20, "A FORM at an address of the MEMORY (SMALL layout) is loaded: its CELL c is written into CELL c of a BIN's ROW,");
        GuestCalls x = Check.told("form z byte;form a byte long 2 char;fill 99 99 1 99 99 99 2 0 0 0 3 0 0 0 4 1 99;");
        Check.row(x, 3, 5, 7, 7, 7, 7, 7);
        Check.due(x, "load", x.load(1, 100, 3), 4, 0);
        Check.holds(x, 3, 1, 2, 3, 260, 7);
        Check.due(x, "load of FORM 0", x.load(0, 99, 3), 1, 0);
        Check.holds(x, 3, 99, 2, 3, 260, 7);
        Check.bytes(x, 99, 99, 1, 99, 99, 99, 2);
        Check.due("the MEMORY stays", x.count(8), 10);
        GuestCalls most = Check.told("form a" + " byte 4".repeat(8) + ";fill 240 1 2 3 4 5 6 7 8 9 10 11 12 13 14 15 16;");
        most.bin(0, 1, 32);
        Check.due(most, "32 CELLS", most.load(0, 224, 0), 32, 0);
        Check.due("CELL 31", most.cell(0, 31, 1), 16);
        Check.due(x, "at the end", x.load(1, 240, 3), 4, 0);
        Check.due(x, "beyond the end", x.load(1, 241, 3), -1, 5);
    }

    private static void loadsKinds() {
        Doc.says(20, "as its KIND (QUAD, PTR as LONG; SMALL LONGS with their sign, PTRS without),");
        String[] kinds = {"flag", "byte", "char", "short", "int", "long", "float", "double", "quad", "ptr"};
        int[] onRow = {0, 1, 2, 3, 4, 5, 6, 7, 5, 5};
        String[] into = {"0", "134567", "24567", "34567", "4567", "567", "67", "7"};
        long[] told = {1, 0x80 - 256, 0x8080, 0x8080 - 65536, 0x80808080, 0x80808080, 0, 0, 0x8080808080808080L, 0x80808080L};
        for (int k = 0; k < 10; k++) {
            GuestCalls x = Check.told("form a " + kinds[k] + ";fill 0 128 128 128 128 128 128 128 128;");
            for (int sort = 0; sort < 10; sort++) {
                x.bin(0, sort, 1);
                boolean fits = into[onRow[k]].indexOf('0' + sort) >= 0;
                Check.due(x, kinds[k] + " into " + sort, x.load(0, 0, 0), fits ? 1 : 0, fits ? 0 : 2);
                long whole = sort == 6 ? (long) (float) told[k] : sort == 7 ? (long) (double) told[k] : told[k];
                Check.due(kinds[k] + " in " + sort, x.box(0, 0, 1), fits ? whole : 0);
            }
        }
        GuestCalls y = Check.told("form a long ptr quad;fill 0 255 255 255 255 255 255 255 255 255 255 255 255 255 255 255 255;");
        y.bin(0, 5, 3);
        Check.due(y, "load", y.load(0, 0, 0), 3, 0);
        Check.holds(y, 0, -1, 4294967295L, -1);
    }

    private static void loadsCounted() {
        Doc.says(20, "each that is not REFUSED (of one CELL 4 ahead of the others):");
        GuestCalls x = Check.told("form a float 3;fill 2 192 127 0 0 128 63 1 0 128 255;");
        x.bin(0, 7, 3);
        Check.due(x, "NaN, 1, NaN", x.load(0, 0, 0), 1, 4);
        Check.holds(x, 0, 0, 1, 0);
        x.bin(1, 5, 3);
        x.bin(2, 8, 0);
        x.bin(3, 10, 0);
        x.bin(4, 7, 0);
        for (int b : new int[] {1, 2, 3, 4, 7}) {
            Check.due(x, "4 ahead, of BIN " + b, x.load(0, 0, b), 0, 4);
        }
    }

    private static void loadsRefused() {
        Doc.says(20, "how many were (why: of the first that was not;");
        GuestCalls x = Check.told("form a int 3;form b flag byte flag;form c float double;form d int float;"
            + "fill 0 1 0 0 0 2 0 0 0 3 0 0 0;fill 34 128 127;fill 46 192 127;");
        x.bin(1, 10, 0);
        x.bin(2, 8, 9);
        x.bin(3, 9, 9);
        x.bin(4, 4, 0);
        Check.due(x, "nothing", x.load(0, 0, 7), 0, 3);
        Check.due(x, "the THING", x.load(0, 0, 1), 0, 2);
        Check.due(x, "ANY", x.load(0, 0, 2), 0, 2);
        Check.due(x, "WORDS", x.load(0, 0, 3), 0, 2);
        Check.due(x, "an empty ROW", x.load(0, 0, 4), 0, 1);
        for (int n = 1; n < 3; n++) {
            x.bin(4, 4, n);
            Check.due(x, "a ROW of " + n, x.load(0, 0, 4), n, 1);
            Check.due("the last of them", x.cell(4, n - 1, 4), n);
        }
        Check.row(x, 5, 4, 9, 9);
        Check.due(x, "2 of the first, 1 of the last", x.load(1, 0, 5), 1, 2);
        Check.holds(x, 5, 9, 0);
        x.bin(5, 0, 2);
        Check.due(x, "2 of the middle one, 1 of the last", x.load(1, 0, 5), 1, 2);
        x.bin(5, 6, 2);
        Check.due(x, "2 of the last, infinite the first", x.load(2, 32, 5), 1, 2);
        Check.holds(x, 5, Long.MAX_VALUE, 0);
        x.bin(5, 3, 2);
        Check.due(x, "2 ahead, then 4", x.load(3, 44 - 4, 5), 0, 2);
        x.bin(5, 7, 2);
        Check.due(x, "then 4", x.load(3, 44 - 4, 5), 1, 4);
    }

    private static void loadsBeyondLine() {
        Doc.says(20, "LINE ahead of all: NONE, and nothing happens).");
        for (int address : new int[] {93, 99, 100, 255, -1, -8, LEAST, MOST}) {
            GuestCalls x = Check.told("line 100;form a int byte;fill 92 1 2 3 4 5 6 7 8 9;");
            Check.row(x, 0, 4, 7, 7);
            Check.due(x, "load at " + address, x.load(0, address, 0), -1, 5);
            Check.holds(x, 0, 7, 7);
            Check.due(x, "ahead of 3", x.load(0, address, 7), -1, 5);
            x.bin(1, 10, 0);
            Check.due(x, "ahead of 2", x.load(0, address, 1), -1, 5);
            Check.due(x, "at the LINE", x.load(0, 92, 0), 2, 0);
            Check.holds(x, 0, 0x04030201, 5);
        }
        GuestCalls y = Check.told("line 20;form f float;fill 18 192 127;");
        Check.due(y, "ahead of 4", y.load(0, 17, 7), -1, 5);
        Check.due(y, "then 4", y.load(0, 16, 7), 0, 4);
    }

    private static void noLoads() {
        Doc.says(20, "NONE: no such ones.");
        GuestCalls x = Check.told("form a int;");
        Check.row(x, 0, 4, 7);
        for (int f : new int[] {-1, 1, 6, LEAST, MOST}) {
            noSuch(x, "FORM " + f, x.load(f, 0, 0));
            noSuch(x, "FORM " + f + ", beyond", x.load(f, -1, 7));
        }
        for (int b : new int[] {-1, 8, LEAST, MOST}) {
            noSuch(x, "BIN " + b, x.load(0, 0, b));
            noSuch(x, "BIN " + b + ", beyond", x.load(0, 256, b));
        }
        Check.holds(x, 0, 7);
    }

    /** NONE of no such ones, by a call that says (why); then a REFUSAL, that why() has another thing to tell. */
    private static void noSuch(GuestCalls x, String call, long got) {
        Check.due(x, call, got, -1, 0);
        x.returns();
    }

    private static void stores() {
        Doc.says(21, "A FORM is stored from a BIN's ROW at an address (SMALL layout, bytes between CELLS stay):"
            + " CELL c read as its KIND (QUAD, PTR as LONG): how many bytes its SIZE is;");
        for (String big : new String[] {"", "big;"}) {
            GuestCalls x = Check.told(big + "form a byte int char byte;fill 99 9 9 9 9 9 9 9 9 9 9 9 9 9 9;");
            Check.row(x, 0, 1, 1, -2, 0, 3, 4);
            Check.due(x, "a BYTE is no CHAR", x.store(0, 0, 100), -1, 2);
            Check.tell(x, big + "form a byte int short byte;fill 99 9 9 9 9 9 9 9 9 9 9 9 9 9 9;");
            Check.row(x, 0, 1, 1, -2, 5, 3, 4);
            Check.due(x, "store", x.store(0, 0, 100), 12, 0);
            Check.bytes(x, 99, 9, 1, 9, 9, 9);
            Check.bytes(x, 104, big.isEmpty() ? 254 : 255, 255, 255, big.isEmpty() ? 255 : 254);
            Check.bytes(x, 108, big.isEmpty() ? 5 : 0, big.isEmpty() ? 0 : 5, 3, 9, 9);
        }
        GuestCalls most = Check.told("form a" + " double 4".repeat(8) + ";");
        most.bin(0, 7, 32);
        most.write(0, 31, 7, 1);
        Check.due(most, "32 CELLS", most.store(0, 0, 0), 256, 0);
        Check.bytes(most, 253, 0, 240, 63);
        Check.due("all else 0", most.count(8), 2);
        String[] kinds = {"flag", "byte", "char", "short", "int", "long", "float", "double", "quad", "ptr"};
        int[] sorts = {0, 1, 2, 3, 4, 5, 6, 7, 5, 5};
        int[] sizes = {1, 1, 2, 2, 4, 4, 4, 8, 8, 4};
        long[] bits = {1, 100, 100, 100, 100, 100, 0x42C80000, 0x4059000000000000L, 100, 100};
        for (int k = 0; k < 10; k++) {
            GuestCalls x = Check.told("form a " + kinds[k] + ";fill 248 9 9 9 9 9 9 9 9;");
            Check.row(x, 0, sorts[k], 100);
            Check.due(x, "store " + kinds[k], x.store(0, 0, 256 - sizes[k]), sizes[k], 0);
            for (int i = 0; i < 8; i++) {
                int at = i - 8 + sizes[k];
                Check.due("byte of " + kinds[k], x.byteAt(248 + i), at < 0 ? 9 : bits[k] >>> 8 * at & 255);
            }
        }
    }

    private static void storesRefused() {
        Doc.says(21, "NONE, and nothing happens (why: LINE ahead of all, then of the first CELL that is REFUSED:");
        String told = "line 100;form a int 3;fill 92 1 2 3 4 5 6 7 8 9;";
        for (int address : new int[] {89, 99, 100, 255, -1, -8, LEAST, MOST}) {
            GuestCalls x = Check.told(told);
            Check.row(x, 0, 4, 7, 7, 7);
            x.bin(1, 10, 0);
            Check.due(x, "store at " + address, x.store(0, 0, address), -1, 5);
            Check.due(x, "ahead of 3", x.store(0, 7, address), -1, 5);
            Check.due(x, "ahead of 2", x.store(0, 1, address), -1, 5);
            GuestCalls y = Check.told(told);
            Check.row(y, 0, 4, 7, 7, 7);
            y.bin(1, 10, 0);
            Check.same("store at " + address, x, y);
            Check.due(x, "at the LINE", x.store(0, 0, 88), 12, 0);
        }
        GuestCalls x = Check.told("form a int 3;form b int long byte;form c long int 2;fill 0 9 9 9 9 9 9 9 9 9 9 9 9;");
        x.bin(1, 10, 0);
        x.bin(2, 8, 3);
        x.bin(3, 9, 3);
        Check.row(x, 4, 4, 7, 7);
        x.bin(5, 6, 3);
        Check.row(x, 6, 5, 1L << 40, 1L << 40, 1);
        int[][] bad = {{0, 7, 3}, {0, 1, 2}, {0, 2, 2}, {0, 3, 2}, {0, 4, 1}, {0, 5, 2}, {1, 4, 1}, {1, 6, 2}, {2, 6, 6}};
        for (int[] b : bad) {
            Check.due(x, "store " + b[0] + " of " + b[1], x.store(b[0], b[1], 0), -1, b[2]);
        }
        Check.row(x, 6, 5, 1, 1L << 40, 1);
        Check.due(x, "2 of CELL 1, ahead of its size", x.store(2, 6, 0), -1, 2);
        Check.bytes(x, 0, 9, 9, 9, 9, 9, 9, 9, 9, 9, 9, 9, 9);
    }

    private static void storesOver() {
        Doc.says(21, "6, too, a SMALL LONG that does not fit into 32 bits, a PTR that is not LOW);");
        GuestCalls x = Check.told("line 200;form a quad long;form b quad ptr;form c long quad;fill 0 9 9 9 9 9 9 9 9 9 9 9 9;");
        long[] values = {0, 1, -1, 199, 200, 201, 2147483647L, 2147483648L, -2147483648L, -2147483649L, 4294967295L, 4294967296L,
            Long.MAX_VALUE, Long.MIN_VALUE};
        for (long v : values) {
            boolean fits = v == (int) v;
            boolean isLow = v >= 0 && v <= 200;
            Check.row(x, 0, 5, 1L << 40, v);
            Check.due(x, "a LONG " + v, x.store(0, 0, 0), fits ? 12 : -1, fits ? 0 : 6);
            Check.due(x, "a PTR " + v, x.store(1, 0, 0), isLow ? 12 : -1, isLow ? 0 : 6);
            Check.row(x, 0, 5, v);
            Check.due(x, "a LONG ahead of no CELL", x.store(2, 0, 0), -1, fits ? 1 : 6);
        }
        Check.row(x, 1, 4, -5);
        Check.tell(x, "form a long;fill 0 9 9 9 9 9;");
        Check.row(x, 1, 4, -5);
        Check.due(x, "an INT as a LONG", x.store(0, 1, 0), 4, 0);
        Check.bytes(x, 0, 251, 255, 255, 255, 9);
        Check.row(x, 1, 5, 1L << 31);
        Check.due(x, "a LONG that is over", x.store(0, 1, 0), -1, 6);
        Check.bytes(x, 0, 251, 255, 255, 255, 9);
    }

    private static void noStores() {
        Doc.says(21, "no such ones.");
        GuestCalls x = Check.told("form a int;");
        Check.row(x, 0, 4, 7);
        for (int f : new int[] {-1, 1, 6, LEAST, MOST}) {
            noSuch(x, "FORM " + f, x.store(f, 0, 0));
            noSuch(x, "FORM " + f + ", beyond", x.store(f, 7, -1));
        }
        for (int b : new int[] {-1, 8, LEAST, MOST}) {
            noSuch(x, "BIN " + b, x.store(0, b, 0));
            noSuch(x, "BIN " + b + ", beyond", x.store(0, b, 256));
        }
        Check.due("the MEMORY", x.count(8), 0);
    }

    private static void turns() {
        Doc.says(22, "A FORM at an address in SMALL layout is laid at another one in WIDE layout (grow), or the other way round,");
        GuestCalls x = Check.told("form a byte long ptr double char;fill 0 5 0 0 0 254 255 255 255 100 0 0 0;fill 12 1 2 3 4 5 6 7 136 9 8;");
        Check.due(x, "grow", x.turn(0, 0, 100, true), 40, 0);
        Check.bytes(x, 100, 5, 0, 0, 0, 0, 0, 0, 0, 254, 255, 255, 255, 255, 255, 255, 255, 100, 0, 0, 0, 0, 0, 0, 0);
        Check.bytes(x, 124, 1, 2, 3, 4, 5, 6, 7, 136, 9, 8, 0, 0, 0, 0, 0, 0);
        Check.due(x, "shrink", x.turn(0, 100, 200, false), 24, 0);
        for (int i = 0; i < 24; i++) {
            Check.due("byte " + i, x.byteAt(200 + i), x.byteAt(i));
        }
        GuestCalls y = Check.told("big;form a long ptr;fill 0 255 255 255 254 0 0 0 7;");
        Check.due(y, "grow", y.turn(0, 0, 100, true), 16, 0);
        Check.bytes(y, 100, 255, 255, 255, 255, 255, 255, 255, 254, 0, 0, 0, 0, 0, 0, 0, 7);
        Check.due(y, "shrink", y.turn(0, 100, 50, false), 8, 0);
        Check.bytes(y, 50, 255, 255, 255, 254, 0, 0, 0, 7);
        GuestCalls most = Check.told("form a" + " long 4".repeat(8) + ";fill 124 1 2 3 132;");
        Check.due(most, "32 CELLS, the WIDE ones in all bytes", most.turn(0, 0, 0, true), 256, 0);
        Check.bytes(most, 247, 0, 1, 2, 3, 132, 255, 255, 255, 255);
        Check.due("all else 0", most.count(8), 8);
        Check.due(most, "and back", most.turn(0, 0, 128, false), 128, 0);
        Check.bytes(most, 251, 0, 1, 2, 3, 132);
        GuestCalls z = Check.told("form a ptr;fill 0 255 255 255 255;");
        Check.due(z, "a PTR without sign", z.turn(0, 0, 100, true), 8, 0);
        Check.bytes(z, 100, 255, 255, 255, 255, 0, 0, 0, 0);
    }

    private static void turnsIntoTheGaps() {
        Doc.says(22, "bytes between CELLS 0; what lay there is gone,");
        String nines = " 9".repeat(16);
        GuestCalls x = Check.told("form a char long byte;fill 100" + nines + ";fill 116" + nines + ";fill 0 1 7 7 7 2 0 0 0 3 7 7 7;");
        Check.due(x, "grow", x.turn(0, 0, 101, true), 24, 0);
        Check.bytes(x, 100, 9, 1, 7, 0, 0, 0, 0, 0, 0, 2, 0, 0, 0, 0, 0, 0, 0, 3, 0, 0, 0, 0, 0, 0, 0, 9);
        GuestCalls y = Check.told("form a byte long char;fill 100" + nines + ";fill 0" + " 7".repeat(8) + " 0 0 0 0 0 0 0 0;fill 16" + nines + ";");
        Check.due(y, "shrink", y.turn(0, 0, 101, false), 12, 0);
        Check.bytes(y, 100, 9, 7, 0, 0, 0, 0, 0, 0, 0, 9, 9, 0, 0, 9);
    }

    private static void turnsReadAhead() {
        Doc.says(22, "all is read ahead: how many bytes it has there;");
        for (int to = 0; to <= 20; to++) {
            GuestCalls x = Check.told("form a ptr 2 byte;fill 8 1 2 0 0 3 4 0 0 5;");
            Check.due(x, "grow at " + to, x.turn(0, 8, to, true), 24, 0);
            Check.bytes(x, to, 1, 2, 0, 0, 0, 0, 0, 0, 3, 4, 0, 0, 0, 0, 0, 0, 5, 0, 0, 0, 0, 0, 0, 0);
            GuestCalls y = Check.told("line 256;form a long 2 byte;fill 8 1 2 0 0 0 0 0 0 3 4 0 0 0 0 0 0;fill 24 5;");
            Check.due(y, "shrink at " + to, y.turn(0, 8, to, false), 12, 0);
            Check.bytes(y, to, 1, 2, 0, 0, 3, 4, 0, 0, 5, 0, 0, 0);
        }
        int[] small = {4, 1, 8};
        int[] wide = {8, 1, 8};
        GuestCalls z = Check.told("form a ptr;form b byte;form c quad;");
        for (int f = 0; f < 3; f++) {
            Check.due(z, "bytes, grown", z.turn(f, 0, 8, true), wide[f], 0);
            Check.due(z, "bytes, shrunk", z.turn(f, 0, 8, false), small[f], 0);
        }
    }

    private static void turnsRefused() {
        Doc.says(22, "NONE, and nothing happens (why: LINE of what is read, of what is laid;");
        String told = "line 100;form a ptr byte;fill 0 255 255 255 255 255 255 255 255 9;fill 84 7 7 7 7;";
        GuestCalls x = Check.told(told);
        Check.due(x, "the least that is read", x.turn(0, 92, 0, true), 16, 0);
        Check.due(x, "the least that is laid", x.turn(0, 0, 84, true), 16, 0);
        Check.due(x, "the least that is read", x.turn(0, 84, 0, false), 8, 0);
        Check.due(x, "the least that is laid", x.turn(0, 0, 92, true), -1, 5);
        Check.due(x, "the least that is laid", x.turn(0, 84, 92, false), 8, 0);
        int[][] bad = {{93, 0, 1}, {0, 85, 1}, {85, 0, 0}, {0, 93, 0}, {-1, 0, 1}, {0, -1, 1}, {-1, 0, 0}, {0, -1, 0}, {LEAST, 0, 1}, {0, LEAST, 0},
            {MOST, 0, 1}, {0, MOST, 0}, {100, 0, 0}, {0, 100, 1}, {255, 0, 1}, {0, 255, 0}, {-1, -1, 1}};
        for (int[] b : bad) {
            GuestCalls y = Check.told(told);
            Check.due(y, "turn " + b[0] + ", " + b[1], y.turn(0, b[0], b[1], b[2] == 1), -1, 5);
            Check.same("turn " + b[0] + ", " + b[1], y, Check.told(told));
        }
    }

    private static void turnsOver() {
        Doc.says(22, "then, shrinking, of the first CELL 6: a LONG that does not fit, a PTR that is not LOW);");
        long[] values = {0, -1, 200, 201, 2147483647L, 2147483648L, -2147483648L, -2147483649L, 4294967295L, 4294967296L, Long.MAX_VALUE,
            Long.MIN_VALUE};
        for (long v : values) {
            boolean fits = v == (int) v;
            boolean isLow = v >= 0 && v <= 200;
            GuestCalls x = Check.told("line 200;form a quad long byte;form b int ptr;form q quad;fill 50 9 9 9 9 9;");
            Check.bits(x, 8, v, 8);
            x.poke(3, 255);
            x.poke(7, 255);
            Check.due(x, "a LONG " + v, x.turn(0, 0, 50, false), fits ? 16 : -1, fits ? 0 : 6);
            Check.due("laid or not", x.byteAt(50 + 1), fits ? 0 : 9);
            Check.due(x, "a PTR " + v, x.turn(1, 0, 50, false), isLow ? 8 : -1, isLow ? 0 : 6);
            Check.due(x, "LINE ahead of 6", x.turn(0, 0, 185, false), -1, 5);
            Check.due(x, "a QUAD never", x.turn(2, 8, 30, false), 8, 0);
            Check.due(x, "growing never", x.turn(0, 8, 60, true), 24, 0);
            Check.due(x, "growing never", x.turn(1, 8, 60, true), 16, 0);
        }
        GuestCalls y = Check.told("form a long 2;fill 8 0 0 0 128;fill 100 9;");
        Check.due(y, "the last CELL", y.turn(0, 0, 100, false), -1, 6);
        Check.due("nothing is laid", y.byteAt(100), 9);
    }

    private static void noTurns() {
        Doc.says(22, "no such FORM.");
        GuestCalls x = Check.told("form a int;fill 0 1;");
        for (int f : new int[] {-1, 1, 6, LEAST, MOST}) {
            noSuch(x, "FORM " + f, x.turn(f, 0, 8, true));
            noSuch(x, "FORM " + f, x.turn(f, 0, 8, false));
            noSuch(x, "FORM " + f + ", beyond", x.turn(f, -1, 256, true));
        }
        Check.due("the MEMORY", x.count(8), 1);
    }

    private static void lists() {
        Doc.says(23, "A list of n (0 .. 8) buffers at an address: each a PTR and an INT, how many bytes (SMALL, side by side):"
            + " what 0 bytes of all, added, 1 how many buffers have none, 2 the greatest.");
        GuestCalls x = Check.told("line 200;");
        int[] starts = {0, 199, 50, 0, 100, 200, 150, 7};
        int[] sizes = {5, 1, 0, 200, 7, 0, 0, 200 - 7};
        int[] added = {0, 5, 6, 6, 206, 213, 213, 213, 406};
        int[] none = {0, 0, 0, 1, 1, 1, 2, 3, 3};
        int[] greatest = {0, 5, 5, 5, 200, 200, 200, 200, 200};
        for (int i = 0; i < 8; i++) {
            Check.buffer(x, 121 + 8 * i, starts[i], sizes[i]);
        }
        for (int n = 0; n <= 8; n++) {
            Check.due(x, "bytes of " + n, x.list(121, n, 0), added[n], 0);
            Check.due(x, "none of " + n, x.list(121, n, 1), none[n], 0);
            Check.due(x, "greatest of " + n, x.list(121, n, 2), greatest[n], 0);
        }
        GuestCalls y = new GuestCalls();
        for (int i = 0; i < 8; i++) {
            Check.buffer(y, 8 * i, 0, 256);
        }
        Check.due(y, "eight of all bytes", y.list(0, 8, 0), 2048, 0);
        Check.due(y, "eight of all bytes", y.list(0, 8, 2), 256, 0);
        GuestCalls z = Check.told("big;fill 0 0 0 0 16 0 0 0 2 0 0 0 32 0 0 1 0;");
        Check.due(z, "the highest byte first", z.list(0, 1, 0), 2, 0);
        Check.due(z, "beyond", z.list(0, 2, 0), -1, 5);
        Check.poke(z, 11, 0);
        Check.due(z, "all bytes", z.list(0, 2, 2), 256, 0);
    }

    private static void listsRefused() {
        Doc.says(23, "NONE (why: LINE of the list; then of the first buffer that is wrong 6: fewer than 0 bytes, or 5);");
        GuestCalls x = Check.told("line 200;");
        int[][] at = {{192, 1, 0}, {193, 1, 5}, {136, 8, 0}, {137, 8, 5}, {-1, 1, 5}, {-8, 1, 5}, {LEAST, 8, 5}, {MOST, 8, 5}, {200, 1, 5}};
        for (int[] a : at) {
            Check.due(x, "a list at " + a[0], x.list(a[0], a[1], 0), a[2] == 0 ? 0 : -1, a[2]);
        }
        Object[][] buffers = {{0L, 200, 0}, {0L, 201, 5}, {199L, 1, 0}, {199L, 2, 5}, {200L, 1, 5}, {200L, 0, 0}, {4294967295L, 1, 5},
            {4294967295L, 0, 0}, {4294967295L, MOST, 5}, {0L, MOST, 5}, {0L, -1, 6}, {0L, LEAST, 6}, {4294967295L, -1, 6}, {2147483648L, 1, 5}};
        for (Object[] b : buffers) {
            int due = (Integer) b[2];
            Check.buffer(x, 0, (Long) b[0], (Integer) b[1]);
            for (int what = 0; what < 3; what++) {
                int size = (Integer) b[1];
                int answer = what == 1 ? size == 0 ? 1 : 0 : size;
                Check.due(x, "a buffer " + b[0] + ", " + b[1], x.list(0, 1, what), due == 0 ? answer : -1, due);
            }
        }
        // the list beyond LINE, though a buffer ahead is wrong; then the first wrong one
        GuestCalls y = Check.told("line 200;");
        Check.buffer(y, 176, 0, 1);
        Check.buffer(y, 184, 0, -1);
        Check.buffer(y, 192, 0, 201);
        Check.due(y, "LINE of the list", y.list(184, 3, 0), -1, 5);
        Check.due(y, "6, then 5", y.list(176, 3, 0), -1, 6);
        Check.buffer(y, 184, 0, 201);
        Check.buffer(y, 192, 0, -1);
        Check.due(y, "5, then 6", y.list(176, 3, 0), -1, 5);
    }

    private static void noLists() {
        Doc.says(23, "no such ones.");
        GuestCalls x = new GuestCalls();
        for (int n : new int[] {-1, 9, LEAST, MOST}) {
            noSuch(x, "n " + n, x.list(0, n, 0));
            noSuch(x, "n " + n + ", beyond", x.list(-1, n, 0));
        }
        for (int what : new int[] {-1, 3, LEAST, MOST}) {
            noSuch(x, "what " + what, x.list(0, 1, what));
            noSuch(x, "what " + what + ", beyond", x.list(-1, 1, what));
            noSuch(x, "what " + what + " of none", x.list(0, 0, what));
        }
    }

    private static void listsOfNoBytes() {
        Doc.says(23, "A buffer, a list of 0 bytes touches none.");
        GuestCalls x = Check.told("line 60;");
        for (int address : BEYOND) {
            for (int what = 0; what < 3; what++) {
                Check.due(x, "a list at " + address, x.list(address, 0, what), 0, 0);
            }
            Check.due(x, "gather", x.move(address, 0, 0, true), 0, 0);
            Check.due(x, "scatter", x.move(address, 0, address, false), 0, 0);
        }
        Check.buffer(x, 0, 4294967295L, 0);
        Check.buffer(x, 8, 60, 0);
        Check.buffer(x, 16, 61, 0);
        Check.buffer(x, 24, 2147483648L, 0);
        Check.due(x, "how many have none", x.list(0, 4, 1), 4, 0);
        for (int address : BEYOND) {
            Check.due(x, "gather to " + address, x.move(0, 4, address, true), 0, 0);
            Check.due(x, "scatter from " + address, x.move(0, 4, address, false), 0, 0);
        }
    }

    private static void gathers() {
        Doc.says(24, "Bytes of a list's buffers, one behind the other, are put from an address on (gather),");
        GuestCalls x = Check.told("line 200;fill 0 1 2 3 4 5 6 7 8;fill 198 9 8 7;");
        Check.buffer(x, 100, 4, 3);
        Check.buffer(x, 108, 900, 0);
        Check.buffer(x, 116, 0, 1);
        Check.buffer(x, 124, 198, 2);
        Check.due(x, "gather", x.move(100, 4, 50, true), 6, 0);
        Check.bytes(x, 49, 0, 5, 6, 7, 1, 9, 8, 0);
        Check.due(x, "gather one", x.move(116, 1, 60, true), 1, 0);
        Check.bytes(x, 59, 0, 1, 0);
        GuestCalls all = Check.told("fill 0 1 2 3 4 5 6 7 8 9;");
        for (int i = 0; i < 8; i++) {
            Check.buffer(all, 100 + 8 * i, 7 - i, 2);
        }
        Check.due(all, "gather eight", all.move(100, 8, 20, true), 16, 0);
        Check.bytes(all, 19, 0, 8, 9, 7, 8, 6, 7, 5, 6, 4, 5, 3, 4, 2, 3, 1, 2, 0);
        Check.due(all, "then seven", all.move(108, 7, 40, true), 14, 0);
        Check.bytes(all, 39, 0, 7, 8, 6, 7, 5, 6, 4, 5, 3, 4, 2, 3, 1, 2, 0);
        Check.due(all, "then one", all.move(100, 1, 60, true), 2, 0);
        Check.bytes(all, 59, 0, 8, 9, 0, 0);
        GuestCalls y = Check.told("line 200;fill 0 1 2 3;fill 200 7;");
        Check.buffer(y, 100, 0, 3);
        Check.due(y, "gather to LINE", y.move(100, 1, 197, true), 3, 0);
        Check.bytes(y, 196, 0, 1, 2, 3, 7);
        GuestCalls z = Check.told("fill 8 5;");
        Check.buffer(z, 0, 0, 256);
        Check.due(z, "all bytes onto themselves", z.move(0, 1, 0, true), 256, 0);
        Check.bytes(z, 0, 0, 0, 0, 0, 0, 1, 0, 0, 5, 0);
    }

    private static void scatters() {
        Doc.says(24, "or bytes from there into them, buffer by buffer: how many;");
        GuestCalls x = Check.told("line 200;fill 0 1 2 3 4 5 6 7 8;fill 200 9;");
        Check.buffer(x, 100, 50, 3);
        Check.buffer(x, 108, 900, 0);
        Check.buffer(x, 116, 60, 1);
        Check.buffer(x, 124, 198, 2);
        Check.due(x, "scatter", x.move(100, 4, 1, false), 6, 0);
        Check.bytes(x, 49, 0, 2, 3, 4, 0);
        Check.bytes(x, 59, 0, 5, 0);
        Check.bytes(x, 197, 0, 6, 7, 9);
        GuestCalls all = Check.told("fill 0 1 2 3 4 5 6 7 8 9;");
        for (int i = 0; i < 8; i++) {
            Check.buffer(all, 100 + 8 * i, 50 + 2 * i, 1);
        }
        Check.due(all, "scatter eight", all.move(100, 8, 1, false), 8, 0);
        Check.bytes(all, 49, 0, 2, 0, 3, 0, 4, 0, 5, 0, 6, 0, 7, 0, 8, 0, 9, 0);
        Check.due(all, "then seven", all.move(100, 7, 0, false), 7, 0);
        Check.bytes(all, 49, 0, 1, 0, 2, 0, 3, 0, 4, 0, 5, 0, 6, 0, 7, 0, 9, 0);
        Check.due(all, "then one", all.move(156, 1, 0, false), 1, 0);
        Check.bytes(all, 63, 0, 1, 0);
        // two buffers that share bytes: the later one's stay
        GuestCalls y = Check.told("fill 0 1 2 3 4 5 6;");
        Check.buffer(y, 100, 50, 4);
        Check.buffer(y, 108, 52, 2);
        Check.due(y, "scatter", y.move(100, 2, 0, false), 6, 0);
        Check.bytes(y, 49, 0, 1, 2, 5, 6, 0);
        GuestCalls z = Check.told("line 200;fill 197 1 2 3 9;");
        Check.buffer(z, 100, 0, 3);
        Check.due(z, "scatter from LINE", z.move(100, 1, 197, false), 3, 0);
        Check.bytes(z, 0, 1, 2, 3, 0);
    }

    private static void movesReadAhead() {
        Doc.says(24, "all bytes are read ahead of any that is put.");
        GuestCalls x = Check.told("fill 0 1 2 3 4 5 6 7 8;");
        Check.buffer(x, 100, 0, 4);
        Check.buffer(x, 108, 2, 4);
        Check.due(x, "gather over what is read", x.move(100, 2, 1, true), 8, 0);
        Check.bytes(x, 0, 1, 1, 2, 3, 4, 3, 4, 5, 6);
        GuestCalls y = Check.told("fill 0 1 2 3 4 5 6 7 8;");
        Check.buffer(y, 100, 4, 2);
        Check.buffer(y, 108, 1, 4);
        Check.due(y, "scatter over what is read", y.move(100, 2, 0, false), 6, 0);
        Check.bytes(y, 0, 1, 3, 4, 5, 6, 2, 7, 8);
        GuestCalls z = Check.told("fill 0 1 2 3 4 5 6 7 8 9 10;");
        Check.buffer(z, 100, 100, 8);
        Check.buffer(z, 108, 60, 2);
        Check.due(z, "scatter over the list", z.move(100, 2, 0, false), 10, 0);
        Check.bytes(z, 100, 1, 2, 3, 4, 5, 6, 7, 8, 60);
        Check.bytes(z, 60, 9, 10, 0);
        GuestCalls w = Check.told("fill 0 1 2;");
        Check.buffer(w, 100, 0, 2);
        Check.buffer(w, 108, 100, 8);
        Check.due(w, "gather over the list", w.move(100, 2, 100, true), 10, 0);
        Check.bytes(w, 100, 1, 2, 0, 0, 0, 0, 2, 0, 0, 0, 0, 0, 8);
    }

    private static void movesRefused() {
        Doc.says(24, "NONE, and nothing happens (why: as list(), then LINE of these);");
        int[][] bad = {{100, 1, 118, 0, 3, 5}, {100, 1, -1, 0, 3, 5}, {100, 1, LEAST, 0, 3, 5}, {100, 1, MOST, 0, 3, 5}, {100, 1, 120, 0, 3, 5},
            {113, 1, 0, 0, 3, 5}, {-1, 1, 0, 0, 3, 5}, {MOST, 8, 0, 0, 3, 5}, {100, 1, 0, 118, 3, 5}, {100, 1, 0, 0, 121, 5},
            {100, 1, 0, 0, -1, 6}, {100, 1, -1, 0, -1, 6}, {100, 2, 0, 0, 121, 5}, {100, 2, 0, 0, 3, 6}, {100, 2, 119, 0, 3, 6}};
        for (int[] b : bad) {
            for (int way = 0; way < 2; way++) {
                GuestCalls x = moved(b[3], b[4]);
                Check.due(x, "move " + b[0] + ", " + b[1] + ", " + b[2], x.move(b[0], b[1], b[2], way == 0), -1, b[5]);
                Check.same("move " + b[0] + ", " + b[1] + ", " + b[2], x, moved(b[3], b[4]));
            }
        }
        GuestCalls y = moved(0, 3);
        Check.due(y, "just below LINE", y.move(100, 1, 117, true), 3, 0);
        GuestCalls z = new GuestCalls();
        for (int i = 0; i < 8; i++) {
            Check.buffer(z, 8 * i, 0, i < 7 ? 256 : 1);
        }
        for (int n = 2; n <= 8; n++) {
            Check.due(z, "more than there are, gathered", z.move(0, n, 0, true), -1, 5);
            Check.due(z, "more than there are, scattered", z.move(0, n, 0, false), -1, 5);
        }
    }

    private static GuestCalls moved(int start, int size) {
        GuestCalls x = Check.told("line 120;fill 0 1 2 3;");
        Check.buffer(x, 100, start, size);
        Check.buffer(x, 108, 0, -1);
        return x;
    }

    private static void noMoves() {
        Doc.says(24, "no such n.");
        GuestCalls x = Check.told("fill 0 1;");
        for (int n : new int[] {-1, 9, LEAST, MOST}) {
            for (int way = 0; way < 2; way++) {
                noSuch(x, "n " + n, x.move(100, n, 0, way == 0));
                noSuch(x, "n " + n + ", beyond", x.move(-1, n, -1, way == 0));
            }
        }
        Check.due("the MEMORY", x.count(8), 1);
    }
}

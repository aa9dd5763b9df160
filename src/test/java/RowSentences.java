/** Promises 9 to 19, sentence by sentence. */
final class RowSentences {
    private static final int LEAST = Integer.MIN_VALUE;
    private static final int MOST = Integer.MAX_VALUE;
    private static final long REFUSED = -100000;

    private RowSentences() {
    }

    static void all() {
        bytes();
        pokes();
        bins();
        noBins();
        lengths();
        cells();
        writes();
        boxes();
        boxesTold();
        noBoxes();
        puts();
        noPuts();
        copies();
        copiesCounted();
        noCopies();
        pastes();
        pastesOfSorts();
        pastesIntoWords();
        noPastes();
        pasteIntoWordsRefused();
        pasteOfNoBins();
        unlikes();
        unlikeNumbers();
        unlikeObjects();
        unlikeLengths();
        alike();
        noUnlikes();
    }

    private static void bytes() {
        Doc.says(9, "A byte of the MEMORY (0 .. 255);");
        GuestCalls x = Check.told("line 3;fill 0 7 255;fill 255 128;");
        Check.bytes(x, 0, 7, 255, 0);
        Check.due("the last", x.byteAt(255), 128);
        Doc.says(9, "NONE: no such address.");
        for (int address : new int[] {-1, 256, LEAST, MOST}) {
            Check.due("byteAt " + address, x.byteAt(address), -1);
        }
    }

    private static void pokes() {
        Doc.says(10, "A byte of the MEMORY becomes v (lowest bits): true;");
        GuestCalls x = Check.told("line 200;fill 200 9;");
        int[] values = {0, 1, 255, 256, -1, 300, 0x12345678, LEAST, MOST};
        for (int v : values) {
            Check.due(x, "poke " + v, x.poke(199, v), true, 0);
            Check.bytes(x, 198, 0, v & 255, 9);
            Check.due(x, "poke " + v, x.poke(0, v), true, 0);
            Check.bytes(x, 0, v & 255, 0);
        }
        Doc.says(10, "false (why).");
        for (int address : new int[] {-1, 200, 255, 256, LEAST, MOST}) {
            GuestCalls y = Check.told("line 200;fill 200 9;fill 255 7;");
            Check.due(y, "poke at " + address, y.poke(address, 1), false, 5);
            Check.same("poke at " + address, y, Check.told("line 200;fill 200 9;fill 255 7;"));
        }
    }

    private static void bins() {
        Doc.says(11, "BIN b holds a ROW of a sort (0 .. 9) of n CELLS (0 .. 40), or (sort 10) the THING, or (11) nothing,"
            + " in place of what it held: true;");
        GuestCalls x = new GuestCalls();
        for (int sort = 0; sort < 10; sort++) {
            for (int n : new int[] {40, 0, 1}) {
                Check.due("bin", x.bin(7, sort, n), true);
                Check.due(x, "length", x.length(7), n, 0);
                Check.due("a CELL less", x.box(7, n, 0), REFUSED);
            }
            for (int n : new int[] {0, -1, 41, LEAST, MOST}) {
                Check.due("the THING", x.bin(7, 10, n), true);
                Check.due(x, "the THING", x.length(7), -1, 2);
                Check.due("nothing", x.bin(7, 11, n), true);
                Check.due(x, "nothing", x.length(7), -1, 3);
            }
        }
        Check.row(x, 0, 5, 7, 8, 9);
        x.bin(0, 5, 3);
        Check.holds(x, 0, 0, 0, 0);
        x.poke(-1, 0);
        x.bin(0, 4, 4);
        Check.due("it says no (why)", x.why(), 5);
    }

    private static void noBins() {
        Doc.says(11, "false, and nothing happens: no such ones.");
        int[][] bad = {{-1, 4, 1}, {8, 4, 1}, {LEAST, 11, 0}, {MOST, 10, 0}, {0, -1, 1}, {0, 12, 1}, {0, LEAST, 1}, {0, MOST, 1},
            {0, 4, -1}, {0, 4, 41}, {0, 0, LEAST}, {0, 8, MOST}, {0, 9, 41}, {0, 7, -1}};
        for (int[] b : bad) {
            GuestCalls x = new GuestCalls();
            Check.row(x, 0, 5, 7, 8);
            Check.due("bin " + b[0] + ", " + b[1] + ", " + b[2], x.bin(b[0], b[1], b[2]), false);
            Check.holds(x, 0, 7, 8);
            Check.due("BINS", x.count(7), 1);
        }
    }

    private static void lengths() {
        Doc.says(12, "How many CELLS the ROW of a BIN has (why);");
        GuestCalls x = Check.told("form a int;");
        for (int sort = 0; sort < 10; sort++) {
            x.length(7);
            x.bin(0, sort, 4 * sort);
            Check.due(x, "length", x.length(0), 4 * sort, 0);
        }
        Doc.says(12, "NONE: REFUSED;");
        Check.due(x, "nothing", x.length(7), -1, 3);
        x.bin(7, 10, 5);
        Check.due(x, "the THING", x.length(7), -1, 2);
        Doc.says(12, "no such BIN (why then 0, here and below).");
        for (int b : new int[] {-1, 8, LEAST, MOST}) {
            noSuch(x, "length", x.length(b), -1);
            noSuch(x, "cell", x.cell(b, 9, 9), 0);
            noSuch(x, "write", x.write(b, 9, 9, 0) ? 1 : 0, 0);
            noSuch(x, "box", x.box(b, 9, 9), REFUSED);
            noSuch(x, "put", x.put(b, 9, 9, 0) ? 1 : 0, 0);
            noSuch(x, "copy", x.copy(b, 0, 7, 0, 1, 4), -1);
            noSuch(x, "copy", x.copy(7, 0, b, 0, 1, 4), -1);
            noSuch(x, "paste", x.paste(b, 0, 7, 0, 1) ? 1 : 0, 0);
            noSuch(x, "paste", x.paste(7, 0, b, 0, 1) ? 1 : 0, 0);
            noSuch(x, "unlike", x.unlike(b, 7), -2);
            noSuch(x, "unlike", x.unlike(7, b), -2);
            noSuch(x, "load", x.load(0, -1, b), -1);
            noSuch(x, "store", x.store(0, b, -1), -1);
        }
    }

    /** An answer of no such ones, by a call that says (why); then a REFUSAL, that why() has another thing to tell. */
    private static void noSuch(GuestCalls x, String call, long got, long want) {
        Check.due(x, call, got, want, 0);
        x.returns();
    }

    private static void cells() {
        Doc.says(13, "CELL i of a BIN's ROW read as a KIND k (0 .. 7), TOLD (why);");
        GuestCalls x = new GuestCalls();
        Check.row(x, 0, 3, -5, 6);
        for (int k : new int[] {3, 4, 5, 6, 7}) {
            Check.due(x, "the first as " + k, x.cell(0, 0, k), -5, 0);
            Check.due(x, "the last as " + k, x.cell(0, 1, k), 6, 0);
        }
        Check.row(x, 1, 0, 1, 0);
        Check.due(x, "a FLAG", x.cell(1, 0, 0), 1, 0);
        Doc.says(13, "0: REFUSED;");
        x.bin(2, 10, 0);
        x.bin(3, 8, 2);
        x.put(3, 0, 4, 7);
        int[][] bad = {{7, 0, 4, 3}, {2, 0, 4, 2}, {3, 0, 4, 2}, {0, 2, 3, 1}, {0, -1, 3, 1}, {0, LEAST, 3, 1}, {0, MOST, 3, 1},
            {0, 0, 2, 2}, {0, 0, 1, 2}, {0, 0, 0, 2}, {1, 0, 1, 2}};
        for (int[] b : bad) {
            Check.due(x, "cell " + b[0] + ", " + b[1] + ", " + b[2], x.cell(b[0], b[1], b[2]), 0, b[3]);
        }
        Doc.says(13, "no such BIN, KIND.");
        for (int k : new int[] {-1, 8, 9, LEAST, MOST}) {
            noSuch(x, "KIND " + k, x.cell(0, 0, k), 0);
            noSuch(x, "KIND " + k + " of nothing", x.cell(7, 0, k), 0);
            noSuch(x, "BIN", x.cell(k < 0 ? k : k == MOST ? k : 8, 0, 4), 0);
        }
    }

    private static void writes() {
        Doc.says(14, "v, MADE of a KIND k (0 .. 7), is written into CELL i of a BIN's ROW (why): true;");
        GuestCalls x = new GuestCalls();
        Check.row(x, 0, 5, 7, 7, 7);
        Check.due(x, "write", x.write(0, 0, 1, 200), true, 0);
        Check.due(x, "write", x.write(0, 2, 2, -1), true, 0);
        Check.holds(x, 0, -56, 7, 65535);
        Doc.says(14, "false: REFUSED;");
        x.bin(2, 10, 0);
        x.bin(3, 9, 2);
        int[][] bad = {{7, 0, 4, 3}, {2, 0, 4, 2}, {3, 0, 4, 2}, {0, 3, 5, 1}, {0, -1, 5, 1}, {0, LEAST, 5, 1}, {0, MOST, 0, 1},
            {0, 0, 6, 2}, {0, 0, 7, 2}, {0, 0, 0, 2}};
        for (int[] b : bad) {
            Check.due(x, "write " + b[0] + ", " + b[1] + ", " + b[2], x.write(b[0], b[1], b[2], 1), false, b[3]);
        }
        Check.holds(x, 0, -56, 7, 65535);
        Doc.says(14, "no such BIN, KIND.");
        for (int k : new int[] {-1, 8, 9, LEAST, MOST}) {
            noSuch(x, "KIND " + k, x.write(0, 0, k, 1) ? 1 : 0, 0);
            noSuch(x, "KIND " + k + " into nothing", x.write(7, 0, k, 1) ? 1 : 0, 0);
            noSuch(x, "BIN", x.write(k < 0 ? k : k == MOST ? k : 8, 0, 4, 1) ? 1 : 0, 0);
        }
        Check.holds(x, 0, -56, 7, 65535);
    }

    private static void boxes() {
        Doc.says(15, "What is in CELL i of a BIN's ROW, of any sort (why): what 0: 0 .. 7 a number of that KIND"
            + " (of a ROW of numbers, a BOX), 8 a WORD, 9 the THING, -2 nothing;");
        GuestCalls x = new GuestCalls();
        x.bin(0, 8, 11);
        for (int k = 0; k <= 10; k++) {
            x.put(0, k, k, 1);
            Check.due(x, "of ANY", x.box(0, k, 0), k == 10 ? -2 : k, 0);
            if (k < 8) {
                x.bin(1, k, 2);
                Check.due(x, "of a ROW of numbers", x.box(1, 1, 0), k, 0);
            }
        }
        x.bin(2, 9, 2);
        x.put(2, 0, 8, 0);
        Check.due(x, "of WORDS", x.box(2, 0, 0), 8, 0);
        Check.due(x, "of WORDS", x.box(2, 1, 0), -2, 0);
        Check.row(x, 3, 7, 1);
        x.write(3, 0, 1, 1);
        Check.due(x, "of a BYTE written into DOUBLES", x.box(3, 0, 0), 7, 0);
    }

    private static void boxesTold() {
        Doc.says(15, "1: it TOLD (of a WORD how many letters; 0 of the THING, of nothing).");
        GuestCalls x = new GuestCalls();
        x.bin(0, 8, 11);
        long[] dues = {1, -1, 65535, -1, -1, -1, -1, -1, 7, 0, 0};
        for (int k = 0; k <= 10; k++) {
            x.put(0, k, k, -1);
            Check.due(x, "TOLD " + k, x.box(0, k, 1), dues[k], 0);
        }
        x.put(0, 8, 9, 7);
        Check.due(x, "the THING behind a WORD", x.box(0, 8, 1), 0, 0);
        x.put(0, 7, 10, 7);
        Check.due(x, "nothing behind a BOX", x.box(0, 7, 1), 0, 0);
    }

    private static void noBoxes() {
        Doc.says(15, "NONE - 99999: REFUSED; no such BIN, what.");
        GuestCalls x = new GuestCalls();
        Check.row(x, 0, 4, 1, 2);
        x.bin(1, 10, 0);
        x.bin(2, 8, 1);
        x.bin(3, 9, 0);
        int[][] bad = {{7, 0, 3}, {7, -1, 3}, {1, 0, 2}, {1, 9, 2}, {0, 2, 1}, {0, -1, 1}, {2, 1, 1}, {3, 0, 1}, {0, LEAST, 1}, {0, MOST, 1}};
        for (int[] b : bad) {
            for (int what = 0; what < 2; what++) {
                Check.due(x, "box " + b[0] + ", " + b[1], x.box(b[0], b[1], what), REFUSED, b[2]);
            }
        }
        for (int what : new int[] {-1, 2, LEAST, MOST}) {
            noSuch(x, "what " + what, x.box(0, 0, what), REFUSED);
            noSuch(x, "what " + what + " of nothing", x.box(7, 0, what), REFUSED);
            noSuch(x, "BIN", x.box(what < 0 ? what : what + 6, 0, 0), REFUSED);
        }
    }

    private static void puts() {
        Doc.says(16, "A BOX of KIND k (0 .. 7) of v MADE of it, or (8) a WORD of as many letters as v's lowest three bits tell,"
            + " (9) the THING, (10) nothing comes into CELL i of a BIN's ROW (why): true;");
        GuestCalls x = new GuestCalls();
        x.bin(0, 8, 3);
        long[] made = {1, 0x78, 0x5678, 0x5678, 0x12345678, 0x112345678L, (long) (float) 0x112345678L, 0x112345678L, 0, 0, 0};
        for (int k = 0; k <= 10; k++) {
            Check.due(x, "put " + k, x.put(0, 1, k, 0x112345678L), true, 0);
            Check.due("what is there", x.box(0, 1, 0), k == 10 ? -2 : k);
            Check.due("it TOLD", x.box(0, 1, 1), made[k]);
        }
        x.bin(1, 9, 1);
        for (long v : new long[] {0, 1, 7, 8, 9, 15, -1, -8, -9, Long.MAX_VALUE, Long.MIN_VALUE, 1L << 32}) {
            Check.due(x, "a WORD", x.put(1, 0, 8, v), true, 0);
            Check.due("letters of " + v, x.box(1, 0, 1), v & 7);
        }
        Check.due(x, "nothing", x.put(1, 0, 10, 3), true, 0);
        Check.due("nothing", x.box(1, 0, 0), -2);
        x.bin(2, 7, 1);
        Check.due(x, "a FLOAT into DOUBLES", x.put(2, 0, 6, 16777217), true, 0);
        Check.holds(x, 2, 16777216);
    }

    private static void noPuts() {
        Doc.says(16, "false: REFUSED;");
        GuestCalls x = new GuestCalls();
        x.bin(1, 10, 0);
        Check.row(x, 2, 5, 4);
        x.bin(3, 9, 1);
        x.put(3, 0, 8, 4);
        int[][] bad = {{0, 0, 4, 3}, {0, 9, 10, 3}, {1, 0, 4, 2}, {1, 9, 10, 2}, {2, 0, 10, 2}, {2, 1, 10, 2}, {2, 1, 8, 1}, {2, -1, 5, 1},
            {2, 0, 6, 2}, {2, 0, 8, 2}, {2, 0, 9, 2}, {3, 1, 4, 1}, {3, 0, 4, 2}, {3, 0, 9, 2}, {3, LEAST, 8, 1}, {3, MOST, 10, 1}};
        for (int[] b : bad) {
            Check.due(x, "put " + b[0] + ", " + b[1] + ", " + b[2], x.put(b[0], b[1], b[2], 1), false, b[3]);
        }
        Check.holds(x, 2, 4);
        Check.holds(x, 3, 4);
        Doc.says(16, "no such BIN, k.");
        for (int k : new int[] {-1, 11, LEAST, MOST}) {
            noSuch(x, "k " + k, x.put(2, 0, k, 1) ? 1 : 0, 0);
            noSuch(x, "k " + k + " into nothing", x.put(0, 0, k, 1) ? 1 : 0, 0);
            noSuch(x, "BIN", x.put(k == 11 ? 8 : k, 0, 4, 1) ? 1 : 0, 0);
        }
        Check.holds(x, 2, 4);
    }

    private static void copies() {
        Doc.says(17, "CELLS from i on of a BIN are read as a KIND k (0 .. 7) and written so into those of another one (or the same)"
            + " from j on, n of them (0 .. 40), one by one,");
        GuestCalls x = new GuestCalls();
        Check.row(x, 0, 3, 1, 2, 3, 4, 5);
        x.bin(1, 5, 5);
        Check.due(x, "copy", x.copy(0, 1, 1, 2, 3, 4), 3, 0);
        Check.holds(x, 1, 0, 0, 2, 3, 4);
        // one by one: what a copy within a ROW wrote is read again
        Check.due(x, "copy upward", x.copy(0, 0, 0, 1, 4, 3), 4, 0);
        Check.holds(x, 0, 1, 1, 1, 1, 1);
        Check.row(x, 0, 3, 1, 2, 3, 4, 5);
        Check.due(x, "copy downward", x.copy(0, 1, 0, 0, 4, 3), 4, 0);
        Check.holds(x, 0, 2, 3, 4, 5, 5);
        x.bin(2, 1, 40);
        x.bin(3, 6, 40);
        Check.due(x, "40", x.copy(2, 0, 3, 0, 40, 5), 40, 0);
        Check.due(x, "none", x.copy(2, 0, 3, 0, 0, 5), 0, 0);
        Check.due(x, "none of nothing", x.copy(7, -9, 6, 99, 0, 5), 0, 0);
        Check.row(x, 4, 5, 16777217);
        x.bin(5, 7, 1);
        x.copy(4, 0, 5, 0, 1, 6);
        Check.holds(x, 5, 16777216);
        x.copy(4, 0, 5, 0, 1, 7);
        Check.holds(x, 5, 16777217);
    }

    private static void copiesCounted() {
        Doc.says(17, "each that is not REFUSED: how many were (why: of the first that was not).");
        GuestCalls x = new GuestCalls();
        Check.row(x, 0, 3, 7, 8, 9);
        Check.row(x, 1, 5, 0, 0, 0, 0, 0);
        Check.due(x, "from below", x.copy(0, -2, 1, 0, 5, 3), 3, 1);
        Check.holds(x, 1, 0, 0, 7, 8, 9);
        Check.due(x, "beyond what is read", x.copy(0, 2, 1, 0, 2, 3), 1, 1);
        Check.holds(x, 1, 9, 0, 7, 8, 9);
        Check.due(x, "to below", x.copy(0, 0, 1, -1, 3, 3), 2, 1);
        Check.holds(x, 1, 8, 9, 7, 8, 9);
        Check.due(x, "to beyond", x.copy(0, 0, 1, 4, 3, 3), 1, 1);
        Check.holds(x, 1, 8, 9, 7, 8, 7);
        Check.due(x, "far from", x.copy(0, MOST, 1, 0, 40, 3), 0, 1);
        Check.due(x, "far to", x.copy(0, 0, 1, MOST - 1, 40, 3), 0, 1);
        Check.due(x, "far below", x.copy(0, LEAST, 1, LEAST, 40, 3), 0, 1);
        Check.due(x, "all of another KIND", x.copy(0, 0, 1, 0, 3, 2), 0, 2);
        Check.due(x, "read beyond, then written of another KIND", x.copy(1, -1, 0, 0, 2, 5), 0, 1);
        Check.due(x, "written of another KIND, then read beyond", x.copy(1, 4, 0, 0, 2, 5), 0, 2);
        x.bin(2, 10, 0);
        x.bin(3, 8, 1);
        int[][] bad = {{7, 2, 3}, {2, 7, 2}, {3, 7, 2}, {0, 7, 3}, {0, 2, 2}, {0, 3, 2}};
        for (int[] b : bad) {
            Check.due(x, "copy " + b[0] + " to " + b[1], x.copy(b[0], 0, b[1], 0, 2, 3), 0, b[2]);
        }
        Check.due(x, "reading goes ahead", x.copy(0, 3, 7, 0, 1, 3), 0, 1);
        Check.holds(x, 1, 8, 9, 7, 8, 7);
    }

    private static void noCopies() {
        Doc.says(17, "NONE, and nothing happens: no such ones.");
        GuestCalls x = new GuestCalls();
        Check.row(x, 0, 3, 7, 8);
        Check.row(x, 1, 3, 1, 2);
        int[][] bad = {{8, 1, 1, 3}, {-1, 1, 1, 3}, {0, 8, 1, 3}, {0, -1, 1, 3}, {0, 1, 41, 3}, {0, 1, -1, 3}, {0, 1, LEAST, 3},
            {0, 1, MOST, 3}, {0, 1, 1, 8}, {0, 1, 1, -1}, {LEAST, MOST, 1, 3}, {0, 1, 1, MOST}, {7, 7, 41, 3}};
        for (int[] b : bad) {
            noSuch(x, "copy " + b[0] + ", " + b[1] + ", " + b[2] + ", " + b[3], x.copy(b[0], 0, b[1], 0, b[2], b[3]), -1);
        }
        Check.holds(x, 1, 1, 2);
    }

    private static void pastes() {
        Doc.says(18, "CELLS from i on of a BIN's ROW are put, as they were, into those of another one (or the same) from j on, n of them,");
        GuestCalls x = new GuestCalls();
        Check.row(x, 0, 4, 1, 2, 3, 4, 5);
        Check.due(x, "upward", x.paste(0, 0, 0, 1, 4), true, 0);
        Check.holds(x, 0, 1, 1, 2, 3, 4);
        Check.due(x, "downward", x.paste(0, 1, 0, 0, 4), true, 0);
        Check.holds(x, 0, 1, 2, 3, 4, 4);
        Check.row(x, 1, 4, 7, 8, 9);
        Check.due(x, "into another", x.paste(0, 3, 1, 1, 2), true, 0);
        Check.holds(x, 1, 7, 4, 4);
        Check.due(x, "all", x.paste(1, 0, 0, 2, 3), true, 0);
        Check.holds(x, 0, 1, 2, 7, 4, 4);
        Check.due(x, "none at the ends", x.paste(0, 5, 1, 3, 0), true, 0);
        x.bin(2, 4, 0);
        Check.due(x, "none of an empty ROW", x.paste(2, 0, 2, 0, 0), true, 0);
        Check.holds(x, 0, 1, 2, 7, 4, 4);
    }

    private static void pastesOfSorts() {
        Doc.says(18, "if both are ROWS of one sort, or of WORDS and ANY");
        for (int from = 0; from < 10; from++) {
            for (int to = 0; to < 10; to++) {
                GuestCalls x = new GuestCalls();
                x.bin(0, from, 2);
                x.bin(1, to, 2);
                x.put(0, 1, from == 9 ? 8 : from == 8 ? 10 : from, 3);
                boolean fits = from == to || from > 7 && to > 7;
                Check.due(x, "sort " + from + " into " + to, x.paste(0, 0, 1, 0, 2), fits, fits ? 0 : 2);
                Check.due("what is there", x.box(1, 1, 1), fits ? x.box(0, 1, 1) : 0);
            }
        }
    }

    private static void pastesIntoWords() {
        Doc.says(18, "(of ANY into WORDS: as far as they are WORDS or nothing): true;");
        GuestCalls x = new GuestCalls();
        x.bin(0, 8, 4);
        x.put(0, 0, 8, 3);
        x.put(0, 2, 8, 0);
        x.put(0, 3, 9, 0);
        x.bin(1, 9, 4);
        x.put(1, 2, 8, 6);
        Check.due(x, "WORDS and nothing", x.paste(0, 0, 1, 1, 3), true, 0);
        Check.holds(x, 1, 0, 3, 0, 0);
        Check.due("nothing", x.box(1, 2, 0), -2);
        Check.due("a WORD of no letters", x.box(1, 3, 0), 8);
        Check.due(x, "none of the THING", x.paste(0, 3, 1, 0, 0), true, 0);
        Check.due(x, "WORDS into ANY", x.paste(1, 1, 0, 2, 2), true, 0);
        Check.holds(x, 0, 3, 0, 3, 0);
    }

    private static void noPastes() {
        Doc.says(18, "false (why: 3, then 2, then 1, so for n below 0, too;");
        GuestCalls x = new GuestCalls();
        Check.row(x, 0, 4, 1, 2, 3);
        Check.row(x, 1, 5, 7, 8, 9);
        x.bin(2, 10, 0);
        x.bin(3, 8, 3);
        Check.row(x, 4, 4, 5, 6);
        x.bin(5, 9, 3);
        int[][] bad = {{7, 0, 2, 0, 1, 3}, {2, 0, 7, 0, 1, 3}, {7, 0, 7, 0, -1, 3}, {0, -1, 7, 0, 1, 3}, {2, 0, 0, 0, 9, 2}, {0, 0, 2, 0, -1, 2},
            {2, 0, 2, 0, 0, 2}, {3, 0, 2, 0, 0, 2}, {2, 0, 3, 0, 0, 2}, {0, 0, 1, 0, 1, 2}, {0, 9, 1, 9, -1, 2}, {0, 0, 3, 0, 1, 2},
            {3, 0, 0, 0, 0, 2}, {5, 0, 0, 0, 1, 2}, {0, 0, 5, 0, 1, 2}, {0, 0, 4, 0, 3, 1}, {4, 0, 0, 0, 3, 1}, {0, -1, 4, 0, 1, 1},
            {0, 0, 4, -1, 1, 1}, {0, 3, 4, 0, 1, 1}, {0, 0, 4, 2, 1, 1}, {0, 0, 4, 0, -1, 1}, {0, 0, 4, 0, LEAST, 1}, {0, 1, 4, 1, MOST, 1},
            {0, MOST, 4, 0, 1, 1}, {0, 0, 4, MOST, 1, 1}, {0, MOST, 4, MOST, MOST, 1}, {0, LEAST, 4, 0, 1, 1}, {0, 0, 0, 1, 3, 1},
            {0, 4, 4, 0, 0, 1}, {0, 0, 4, 3, 0, 1}, {0, -1, 4, 0, 0, 1}, {3, 3, 5, 0, 1, 1}, {5, 0, 3, 0, -1, 1}};
        for (int[] b : bad) {
            Check.due(x, "paste " + b[0] + ", " + b[1] + ", " + b[2] + ", " + b[3] + ", " + b[4],
                x.paste(b[0], b[1], b[2], b[3], b[4]), false, b[5]);
        }
        Check.holds(x, 0, 1, 2, 3);
        Check.holds(x, 1, 7, 8, 9);
        Check.holds(x, 4, 5, 6);
    }

    private static void pasteIntoWordsRefused() {
        Doc.says(18, "of ANY into WORDS 2 last, what was put ahead stays);");
        for (int k : new int[] {0, 4, 7, 9}) {
            GuestCalls x = new GuestCalls();
            x.bin(0, 8, 4);
            x.put(0, 0, 8, 3);
            x.put(0, 2, k, 1);
            x.put(0, 3, 8, 2);
            x.bin(1, 9, 4);
            for (int i = 0; i < 4; i++) {
                x.put(1, i, 8, 7);
            }
            Check.due(x, "1 ahead of the last 2", x.paste(0, 0, 1, 1, 4), false, 1);
            Check.due(x, "1 ahead of the last 2", x.paste(0, 2, 1, 0, 3), false, 1);
            Check.holds(x, 1, 7, 7, 7, 7);
            Check.due(x, "the first of them", x.paste(0, 2, 1, 0, 2), false, 2);
            Check.holds(x, 1, 7, 7, 7, 7);
            Check.due(x, "what was put ahead", x.paste(0, 0, 1, 0, 4), false, 2);
            Check.holds(x, 1, 3, 0, 7, 7);
            Check.due("nothing", x.box(1, 1, 0), -2);
            Check.due(x, "the last of them", x.paste(0, 1, 1, 2, 2), false, 2);
            Check.holds(x, 1, 3, 0, 0, 7);
            Check.due("nothing", x.box(1, 2, 0), -2);
        }
    }

    private static void pasteOfNoBins() {
        Doc.says(18, "why 0: no such BINS.");
        GuestCalls x = new GuestCalls();
        Check.row(x, 0, 4, 1, 2);
        for (int b : new int[] {-1, 8, LEAST, MOST}) {
            noSuch(x, "from " + b, x.paste(b, 0, 0, 0, 1) ? 1 : 0, 0);
            noSuch(x, "to " + b, x.paste(0, 0, b, 0, 1) ? 1 : 0, 0);
            noSuch(x, "from nothing to " + b, x.paste(7, 0, b, 0, -1) ? 1 : 0, 0);
        }
        Check.holds(x, 0, 1, 2);
    }

    private static void unlikes() {
        Doc.says(19, "CELLS of two BINS' ROWS side by side: the first place at which they are unlike");
        GuestCalls x = new GuestCalls();
        Check.row(x, 0, 4, 1, 2, 3);
        Check.row(x, 1, 4, 9, 2, 9);
        Check.row(x, 2, 4, 1, 2, 9);
        Check.due(x, "at 0", x.unlike(0, 1), 0, 0);
        Check.due(x, "at 2", x.unlike(0, 2), 2, 0);
        Check.due(x, "at 2", x.unlike(2, 0), 2, 0);
    }

    private static void unlikeNumbers() {
        Doc.says(19, "(numbers, BOXES: FLAGS alike if the same, others if they are the same as DOUBLES, a FLAG and another one never;");
        for (int k = 0; k < 8; k++) {
            GuestCalls x = new GuestCalls();
            x.bin(0, 8, 1);
            x.bin(1, 8, 1);
            for (int other = 0; other < 8; other++) {
                x.put(0, 0, k, 1);
                x.put(1, 0, other, 1);
                boolean isAlike = k == other || k > 0 && other > 0;
                Check.due(x, "1 of " + k + ", of " + other, x.unlike(0, 1), isAlike ? -1 : 0, 0);
                x.put(1, 0, other, 0);
                Check.due(x, "1 of " + k + ", 0 of " + other, x.unlike(0, 1), 0, 0);
                x.put(0, 0, k, 0);
                Check.due(x, "0 of " + k + ", of " + other, x.unlike(0, 1), isAlike ? -1 : 0, 0);
                Check.row(x, 2, k, 0);
                Check.row(x, 3, other, 0);
                Check.due(x, "a ROW of " + k + ", of " + other, x.unlike(2, 3), isAlike ? -1 : 0, 0);
                Check.due(x, "a ROW and a BOX", x.unlike(2, 1), isAlike ? -1 : 0, 0);
            }
        }
        long[][] pairs = {{5, 9007199254740993L, 5, 9007199254740992L, -1}, {5, 9007199254740993L, 7, 9007199254740993L, -1},
            {5, 9007199254740994L, 5, 9007199254740992L, 0}, {5, 16777217, 6, 16777217, 0}, {4, 16777217, 7, 16777217, -1},
            {2, 65535, 4, 65535, -1}, {2, 65535, 3, -1, 0}, {5, Long.MAX_VALUE, 6, Long.MAX_VALUE, -1}, {1, -1, 7, -1, -1}};
        GuestCalls x = new GuestCalls();
        x.bin(0, 8, 1);
        x.bin(1, 8, 1);
        for (long[] p : pairs) {
            x.put(0, 0, (int) p[0], p[1]);
            x.put(1, 0, (int) p[2], p[3]);
            Check.due(x, p[1] + " of " + p[0] + ", " + p[3] + " of " + p[2], x.unlike(0, 1), p[4], 0);
        }
        GuestCalls y = Check.told("form f float;form d double;fill 3 128;fill 8 0 0 128 127;fill 22 240 127;");
        Check.row(y, 0, 6, 1);
        Check.row(y, 1, 7, 0);
        y.load(0, 0, 0);
        Check.due(y, "-0 and 0 are the same", y.unlike(0, 1), -1, 0);
        y.load(0, 8, 0);
        Check.due(y, "no end and 0", y.unlike(0, 1), 0, 0);
        y.load(1, 16, 1);
        Check.due(y, "no end, of both", y.unlike(0, 1), -1, 0);
    }

    private static void unlikeObjects() {
        Doc.says(19, "WORDS by their letters; the THING, nothing),");
        int[][] contents = {{8, 0}, {8, 1}, {8, 7}, {9, 0}, {10, 0}, {0, 0}, {0, 1}, {4, 0}, {4, 1}, {4, 7}};
        for (int a = 0; a < contents.length; a++) {
            GuestCalls x = new GuestCalls();
            x.bin(0, 8, 1);
            x.bin(1, 8, 1);
            x.bin(2, 9, 1);
            for (int b = 0; b < contents.length; b++) {
                x.put(0, 0, contents[a][0], contents[a][1]);
                x.put(1, 0, contents[b][0], contents[b][1]);
                Check.due(x, "unlike " + a + ", " + b, x.unlike(0, 1), a == b ? -1 : 0, 0);
            }
            for (int n = 0; n < 8; n++) {
                x.put(2, 0, 8, n);
                Check.due(x, "a WORD of WORDS", x.unlike(2, 0), contents[a][0] == 8 && contents[a][1] == n ? -1 : 0, 0);
            }
            x.put(2, 0, 10, 0);
            Check.due(x, "nothing of WORDS", x.unlike(2, 0), contents[a][0] == 10 ? -1 : 0, 0);
        }
    }

    private static void unlikeLengths() {
        Doc.says(19, "or which one of them lacks;");
        GuestCalls x = new GuestCalls();
        Check.row(x, 0, 4, 0, 0, 0);
        Check.row(x, 1, 5, 0, 0);
        x.bin(2, 6, 0);
        x.bin(3, 8, 2);
        x.bin(4, 9, 1);
        int[][] pairs = {{0, 1, 2}, {1, 0, 2}, {0, 2, 0}, {2, 0, 0}, {3, 4, 1}, {4, 3, 1}, {2, 3, 0}};
        for (int[] p : pairs) {
            Check.due(x, "unlike " + p[0] + ", " + p[1], x.unlike(p[0], p[1]), p[2], 0);
        }
        Check.row(x, 1, 5, 0, 7);
        Check.due(x, "unlike ahead of that", x.unlike(0, 1), 1, 0);
    }

    private static void alike() {
        Doc.says(19, "NONE: they are alike (why);");
        GuestCalls x = new GuestCalls();
        for (int sort = 0; sort < 10; sort++) {
            for (int n : new int[] {0, 1, 40}) {
                x.length(7);
                x.bin(0, sort, n);
                x.bin(1, sort, n);
                Check.due(x, "sort " + sort, x.unlike(0, 1), -1, 0);
                Check.due(x, "itself", x.unlike(0, 0), -1, 0);
            }
        }
        x.bin(0, 0, 0);
        Check.due(x, "empty ROWS of two sorts", x.unlike(0, 1), 0, 0);
        x.bin(1, 3, 0);
        Check.due(x, "empty ROWS of two sorts", x.unlike(0, 1), -1, 0);
    }

    private static void noUnlikes() {
        Doc.says(19, "-2: REFUSED (the first BIN ahead), no such BINS (why 0).");
        GuestCalls x = new GuestCalls();
        x.bin(0, 10, 0);
        x.bin(1, 4, 1);
        int[][] pairs = {{0, 2, 2}, {2, 0, 3}, {1, 2, 3}, {1, 0, 2}, {2, 1, 3}, {0, 1, 2}, {0, 0, 2}, {2, 2, 3}};
        for (int[] p : pairs) {
            Check.due(x, "unlike " + p[0] + ", " + p[1], x.unlike(p[0], p[1]), -2, p[2]);
        }
        for (int b : new int[] {-1, 8, LEAST, MOST}) {
            noSuch(x, "unlike " + b + ", 0", x.unlike(b, 0), -2);
            noSuch(x, "unlike 0, " + b, x.unlike(0, b), -2);
            noSuch(x, "unlike 2, " + b, x.unlike(2, b), -2);
        }
    }
}

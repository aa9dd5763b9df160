/** Terms I, sentence by sentence: texts, TOKENS, FORMS, FAULTS. */
final class TextSentences {
    private static final String I = "I";
    private static final String[] KINDS = {"flag", "byte", "char", "short", "int", "long", "float", "double", "quad", "ptr"};
    private static final String[] TELLS = {"big", "line", "form", "fill"};
    private static final String BIGS = "big;".repeat(200);

    private TextSentences() {
    }

    static void all() {
        mostBytes();
        longestTokens();
        blanks();
        names();
        ints();
        sign();
        noTokens();
        noTell();
        tells();
        members();
        big();
        line();
        beyondLine();
        formsInOrder();
        mostMembers();
        kindsOfMembers();
        cellsOfMembers();
        cellsOfForms();
        fills();
        fillsLie();
        firstFault();
        syntax();
        tokenRoom();
        formRoom();
        memberRoom();
        byteRoom();
        twice();
        wrongLine();
        wrongCells();
        wrongAddress();
        wrongByte();
        wrongEnd();
        roomAndSyntaxFirst();
        faultsChangeNothing();
        goodTextsBeginAnew();
        slotsHoldNothing();
    }

    private static void mostBytes() {
        Doc.says(I, "A TEXT has 2,000 bytes at most.");
        Check.fault(" ".repeat(1996) + "big;", 0, -1);
        Check.fault(" ".repeat(1999) + ";", 1, 1999);
        Check.fault(" ".repeat(1997) + "big", 1, 2000);
        Check.fault(" ".repeat(1993) + "line 12", 1, 2000);
        Check.fault(" ".repeat(1995) + "line ", 1, 2000);
        Check.due("BIG, by the last byte", Check.told(" ".repeat(1996) + "big;").count(2), 1);
    }

    private static void longestTokens() {
        Doc.says(I, "TOKENS, the longest that can be,");
        Check.fault("bigs;", 1, 0);
        Check.fault("form ints int;", 0, -1);
        Check.fault("form formline int;", 0, -1);
        Check.fault("form a intx;", 1, 7);
        Check.fault("forma int;", 1, 0);
        Check.due("123, not 1, 2, 3", Check.told("line 123;").count(1), 123);
        Check.bytes(Check.told("fill 0 12 3 4;"), 0, 12, 3, 4, 0);
    }

    private static void blanks() {
        Doc.says(I, "with blanks (9, 10, 13, 32) between or not:");
        for (int blank : new int[] {9, 10, 13, 32}) {
            String b = String.valueOf((char) blank);
            String text = b + "line" + b + b + "12" + b + ";" + b;
            Check.due("line behind blanks " + blank, Check.told(text).count(1), 12);
        }
        GuestCalls x = Check.told("line12;form a int4;fill0 7;big;");
        Check.due("line", x.count(1), 12);
        Check.due("forms", x.count(0), 1);
        Check.due("byte", x.byteAt(0), 7);
        Check.due("big", x.count(2), 1);
        for (int other : new int[] {0, 1, 8, 11, 12, 14, 31, 33, 95, 127, 133, 160, 255}) {
            Check.fault("big" + (char) other + ";", 1, 3);
        }
    }

    private static void names() {
        Doc.says(I, "NAMES (letters a .. z, 8 at most, none of the words in quotes),");
        String good = "a z az za abcdefgh stuvwxyz zzzzzzzz bi bigs liner fore fi ints inte ptrr quads";
        for (String name : good.split(" ")) {
            Check.fault("form " + name + " int;", 0, -1);
        }
        Check.fault("form ; int;", 1, 5);
        for (String word : TELLS) {
            Check.fault("form " + word + " int;", 1, 5);
        }
        for (String word : KINDS) {
            Check.fault("form " + word + " int;", 1, 5);
        }
        for (char other : new char[] {'A', 'Z', '`', '{', '_', (char) 225, (char) 233}) {
            Check.fault("form " + other + " int;", 1, 5);
            Check.fault("form a" + other + " int;", 1, 6);
        }
    }

    private static void ints() {
        Doc.says(I, "INTS (1 to 4 digits),");
        Check.due("1 digit", Check.told("line 9;").count(1), 9);
        Check.due("4 digits", Check.told("line 0256;").count(1), 256);
        Check.fault("line 00256;", 1, 5);
        Check.bytes(Check.told("fill 0000 0009 0255 0;"), 0, 9, 255, 0);
        for (String other : new String[] {"-5", "+5", "/", ":", "x5"}) {
            Check.fault("line " + other + ";", 1, 5);
        }
        Check.fault("line 1/;", 1, 6);
        Check.fault("line 1:;", 1, 6);
    }

    private static void sign() {
        Doc.says(I, "the SIGN ; .");
        Check.fault("big;", 0, -1);
        for (char other : new char[] {',', '.', ':', '<', '{', (char) (59 + 128)}) {
            Check.fault("big" + other, 1, 3);
        }
        Check.fault("big;;", 1, 4);
    }

    private static void noTokens() {
        Doc.says(I, "A longer one, all else, is no TOKEN.");
        Check.fault("form abcdefghi int;", 1, 5);
        Check.fault("form doubledouble int;", 1, 5);
        Check.fault("bigbigbig;", 1, 0);
        Check.fault("form a int 00001;", 1, 11);
        Check.fault("fill 0 10000;", 1, 7);
        Check.fault("fill 00000 1;", 1, 5);
        Check.fault("fill 0 1 00002;", 1, 9);
        Check.fault("big;!", 1, 4);
        Check.fault("big;" + (char) 0, 1, 4);
        String[] starts = {"", "big", "line ", "line 5", "form ", "form a ", "form a int", "form a int 2", "fill ", "fill 3 ",
            "fill 3 4"};
        for (int sign = 0; sign < 256; sign++) {
            if ("\t\n\r ;0123456789".indexOf(sign) < 0 && (sign < 'a' || sign > 'z')) {
                for (String start : starts) {
                    Check.fault(start + (char) sign + " 4;", 1, start.length());
                }
            }
        }
    }

    private static void noTell() {
        Doc.says(I, "text: {TELL}.");
        Check.fault("", 0, -1);
        Check.fault("  \t\r\n ", 0, -1);
        GuestCalls x = Check.told("fill 0 1;form a int;big;line 9;form b int;fill 3 2;line 7;big;fill 0 3;");
        Check.due("forms", x.count(0), 2);
        Check.due("line", x.count(1), 7);
        Check.bytes(x, 0, 3, 0, 0, 2);
    }

    // Each way into a TELL, and each TOKEN that may stand there (b is a NAME, 2 an INT, int a MEMBER's word).
    private static void tells() {
        Doc.says(I, "TELL: 'big' ';' | 'line' INT ';' | 'form' NAME MEMBER {MEMBER} ';' | 'fill' INT INT {INT} ';'.");
        goesOn("", "big line form fill");
        goesOn("big", ";");
        goesOn("line", "2");
        goesOn("line 5", ";");
        goesOn("form", "b");
        goesOn("form a", "int");
        goesOn("form a int", "int 2 ;");
        goesOn("form a int 2", "int ;");
        goesOn("form a int 2 byte", "int 2 ;");
        goesOn("fill", "2");
        goesOn("fill 3", "2");
        goesOn("fill 3 4", "2 ;");
        goesOn("fill 3 4 5", "2 ;");
    }

    private static void goesOn(String start, String allowed) {
        for (String token : "big line form fill ; 2 b int".split(" ")) {
            String text = start + " " + token;
            boolean fits = (" " + allowed + " ").contains(" " + token + " ");
            if (fits && token.equals(";")) {
                Check.fault(text, 0, -1);
            } else {
                Check.fault(text, 1, fits ? text.length() : start.length() + 1);
            }
        }
        if (!start.isEmpty()) {
            Check.fault(start, 1, start.length());
        }
    }

    private static void members() {
        Doc.says(I, "MEMBER: ('flag' | 'byte' | 'char' | 'short' | 'int' | 'long' | 'float' | 'double' | 'quad' | 'ptr') [INT].");
        for (String kind : KINDS) {
            GuestCalls x = Check.told("form a " + kind + ";form b " + kind + "3 " + kind + " " + kind + " 4;");
            Check.due("members", x.layout(1, false, -1, 0), 3);
            Check.due("cells", x.layout(0, false, 0, 1), 1);
            Check.due("cells", x.layout(1, false, 0, 1), 3);
            Check.due("cells", x.layout(1, false, 1, 1), 1);
            Check.due("cells", x.layout(1, false, 2, 1), 4);
        }
        for (String other : new String[] {"real", "boolean", "ints", "flags", "big", "line", "form", "fill"}) {
            Check.fault("form a " + other + ";", 1, 7);
        }
        Check.fault("form a int 2 3;", 1, 13);
    }

    private static void big() {
        Doc.says(I, "BIG: bytes of a number lie the highest first (else the lowest first).");
        String forms = "form s short;form i int;form q quad;fill 0 1 2 3 4 5 6 7 8;";
        long[] highest = {0x0102, 0x01020304, 0x0102030405060708L};
        long[] lowest = {0x0201, 0x04030201, 0x0807060504030201L};
        for (String told : new String[] {"", "big;", "big;big;"}) {
            GuestCalls x = Check.told(told + forms);
            x.bin(0, 5, 1);
            for (int f = 0; f < 3; f++) {
                x.load(f, 0, 0);
                Check.due("form " + f + " of " + told, x.cell(0, 0, 5), told.isEmpty() ? lowest[f] : highest[f]);
            }
            x.store(2, 0, 16);
            Check.bytes(x, 16, 1, 2, 3, 4, 5, 6, 7, 8);
        }
    }

    private static void line() {
        Doc.says(I, "LINE 1 .. 256, if not told 256 (the last one):");
        Check.due("not told", Check.told("big;").count(1), 256);
        Check.due("least", Check.told("line 1;").count(1), 1);
        Check.due("greatest", Check.told("line 256;").count(1), 256);
        Check.due("the last one", Check.told("line 3;line 200;").count(1), 200);
        Check.due("the last one", Check.told("line 200;big;line 3;").count(1), 3);
    }

    private static void beyondLine() {
        Doc.says(I, "bytes of the MEMORY (256, numbered from 0 on) at LINE and beyond can't be touched by a call but byteAt().");
        GuestCalls x = Check.told("line 40;form a int;fill 40 1 2 3 4;fill 255 9;fill 8 38 0 0 0 3;fill 16 38 0 0 0 2;");
        Check.bytes(x, 39, 0, 1, 2, 3, 4, 0);
        Check.due("byteAt(255)", x.byteAt(255), 9);
        x.bin(0, 4, 1);
        Check.due(x, "poke", x.poke(39, 0), true, 0);
        Check.due(x, "poke", x.poke(40, 0), false, 5);
        Check.due(x, "poke", x.poke(255, 0), false, 5);
        Check.due(x, "load", x.load(0, 36, 0), 1, 0);
        Check.due(x, "load", x.load(0, 37, 0), -1, 5);
        Check.due(x, "store", x.store(0, 0, 36), 4, 0);
        Check.due(x, "store", x.store(0, 0, 37), -1, 5);
        Check.due(x, "turn", x.turn(0, 36, 0, true), 4, 0);
        Check.due(x, "turn", x.turn(0, 37, 0, true), -1, 5);
        Check.due(x, "turn", x.turn(0, 0, 36, true), 4, 0);
        Check.due(x, "turn", x.turn(0, 0, 37, true), -1, 5);
        Check.due(x, "list", x.list(32, 1, 0), 0, 0);
        Check.due(x, "list", x.list(33, 1, 0), -1, 5);
        Check.due(x, "list", x.list(8, 1, 0), -1, 5);
        Check.due(x, "list", x.list(16, 1, 0), 2, 0);
        Check.due(x, "move", x.move(16, 1, 38, true), 2, 0);
        Check.due(x, "move", x.move(16, 1, 39, true), -1, 5);
        Check.due(x, "move", x.move(16, 1, 39, false), -1, 5);
        x.sets(0, -1);
        Check.due(x, "frame", x.frame(), 4, 0);
        Check.bytes(x, 40, 1, 2, 3, 4, 0);
        Check.due(x, "poke at 255", Check.told("").poke(255, 1), true, 0);
    }

    private static void formsInOrder() {
        Doc.says(I, "FORMS, 6 at most, numbered from 0 on as they stand;");
        GuestCalls x = Check.told("form f ptr;form e byte;form d char;form c quad;form b int;form a long;");
        int[] kinds = {9, 1, 2, 8, 4, 5};
        for (int f = 0; f < 6; f++) {
            Check.due("kind of form " + f, x.layout(f, false, 0, 0), kinds[f]);
        }
        Check.due("forms", x.count(0), 6);
        Check.due("a 7th", x.layout(6, false, 0, 0), -1);
    }

    private static void mostMembers() {
        Doc.says(I, "of 8 MEMBERS at most,");
        GuestCalls x = Check.told("form a byte char int byte char int byte long;");
        Check.due("members", x.layout(0, false, -1, 0), 8);
        Check.due("the last", x.layout(0, false, 7, 0), 5);
        Check.fault("form a byte byte byte byte byte byte byte byte byte;", 2, 47);
    }

    private static void kindsOfMembers() {
        Doc.says(I, "each of a KIND (the word's place, from 0 on)");
        for (int k = 0; k < 10; k++) {
            GuestCalls x = Check.told("form a int " + KINDS[k] + ";");
            Check.due("KIND of " + KINDS[k], x.layout(0, false, 1, 0), k);
            Check.due("KIND of " + KINDS[k], x.layout(0, true, 1, 0), k);
        }
    }

    private static void cellsOfMembers() {
        Doc.says(I, "and of 1 .. 4 CELLS (the INT, if not told 1);");
        GuestCalls x = Check.told("form a byte byte 1 byte 2 byte 3 byte 4 byte 0002;");
        int[] cells = {1, 1, 2, 3, 4, 2};
        for (int m = 0; m < cells.length; m++) {
            Check.due("cells of " + m, x.layout(0, false, m, 1), cells[m]);
        }
    }

    private static void cellsOfForms() {
        Doc.says(I, "CELLS of a FORM are numbered from 0 on through all MEMBERS.");
        GuestCalls most = Check.told("form a" + " byte 4".repeat(8) + ";fill 31 9 8;");
        most.bin(0, 1, 32);
        Check.due("32 CELLS", most.layout(0, false, -1, 1), 32);
        Check.due(most, "load of 32", most.load(0, 0, 0), 32, 0);
        Check.due("CELL 31", most.cell(0, 31, 1), 9);
        Check.due("ARGUMENT 31", most.argument(0, 31, 1), 100);
        Check.due("ARGUMENT 32", most.argument(0, 32, 1), -1);
        GuestCalls x = Check.told("form a byte 2 byte byte 3;fill 0 5 6 7 8 9 10;");
        Check.due("cells", x.layout(0, false, -1, 1), 6);
        x.bin(0, 1, 6);
        Check.due(x, "load", x.load(0, 0, 0), 6, 0);
        Check.holds(x, 0, 5, 6, 7, 8, 9, 10);
        for (int c = 0; c < 6; c++) {
            Check.due("register of " + c, x.argument(0, c, 0), c);
        }
        Check.due("a 7th", x.argument(0, 6, 0), -1);
    }

    private static void fills() {
        Doc.says(I, "'fill': an address 0 .. 255, bytes 0 .. 255, 16 at most:");
        GuestCalls x = Check.told("fill 0 0 255;fill 255 255;fill 239 1 2 3 4 5 6 7 8 9 10 11 12 13 14 15 16;");
        Check.bytes(x, 0, 0, 255, 0);
        Check.bytes(x, 238, 0, 1, 2, 3, 4, 5, 6, 7, 8, 9, 10, 11, 12, 13, 14, 15, 16, 255);
    }

    private static void fillsLie() {
        Doc.says(I, "they lie there from the address on (else 0), also beyond LINE.");
        GuestCalls x = Check.told("fill 9 1 2 3;line 10;fill 200 4;fill 255 6;");
        Check.bytes(x, 8, 0, 1, 2, 3, 0);
        Check.bytes(x, 199, 0, 4, 0);
        Check.due("the last", x.byteAt(255), 6);
        Check.due("all others 0", x.count(8), 5);
        Check.bytes(Check.told("fill 3 1 2 3;fill 4 9;"), 3, 1, 9, 3);
    }

    private static void firstFault() {
        Doc.says(I, "FAULTS of a text, the first by its place (a byte; the text's end: its length), of one place the least:");
        Check.fault("  big", 1, 5);
        Check.fault("big;line   ", 1, 11);
        Check.fault("form a int 5;form a int;line 0;", 5, 11);
        Check.fault("form a int;form a int 5;line 0;", 3, 16);
        Check.fault("line 0;form a int 9;form a int;", 5, 5);
        Check.fault("x y", 1, 0);
        Check.fault("fill 0" + " 1".repeat(17) + " x", 2, 39);
        Check.fault("fill 0" + " 1".repeat(16) + " x 1", 1, 39);
        // a 401st TOKEN with which no text goes on
        Check.fault(BIGS + "int", 1, 800);
        Check.fault(BIGS + "!", 1, 800);
        Check.fault(BIGS.substring(8) + "form a int big", 1, 803);
    }

    private static void syntax() {
        Doc.says(I, "1 SYNTAX: a TOKEN, or what is none, with which no text goes on.");
        Check.fault(";", 1, 0);
        Check.fault("7", 1, 0);
        Check.fault("name", 1, 0);
        Check.fault("int", 1, 0);
        Check.fault("#", 1, 0);
        Check.fault("big;line 5;a;", 1, 11);
        Check.fault("line 5 #", 1, 7);
        Check.fault("line 55555", 1, 5);
        Check.fault("form abcdefghi", 1, 5);
        Check.fault("big", 1, 3);
    }

    private static void tokenRoom() {
        Doc.says(I, "2 ROOM: a 401st TOKEN;");
        Check.fault(BIGS, 0, -1);
        Check.fault(BIGS + " \n ", 0, -1);
        Check.fault(BIGS + "big;", 2, 800);
        Check.fault(BIGS + "  line 5;", 2, 802);
        Check.fault(BIGS + "form;", 2, 800);
        Check.fault(BIGS + "fill;", 2, 800);
        Check.fault(BIGS.substring(4) + "line 4;", 2, 802);
        Check.fault(BIGS.substring(4) + "line 4", 1, 802);
        Check.fault(BIGS.substring(4) + "fill 0 1;", 2, 803);
        Check.fault(BIGS.substring(4) + "form a int;", 2, 803);
        Check.fault(BIGS.substring(8) + "form a int;", 0, -1);
        Check.fault(BIGS.substring(8) + "form a int 2;", 2, 804);
        Check.fault(BIGS.substring(8) + "form a int int;", 2, 806);
        Check.fault(BIGS.substring(8) + "fill 0 1 2;", 2, 802);
        Check.fault("line 4;" + BIGS.substring(12) + "form a int 3;", 2, 806);
        Check.fault("line 4;" + BIGS.substring(12) + "form a int;", 2, 805);
        Check.fault("line 4;" + BIGS.substring(12) + "form a int int;", 2, 806);
        Check.fault("big ;".repeat(200) + "big", 2, 1000);
    }

    private static void formRoom() {
        Doc.says(I, "a 7th FORM (at the line's first word),");
        String six = "form a int;form b int;form c int;form d int;form e int;form f int;";
        Check.fault(six, 0, -1);
        Check.fault(six + " form g int;", 2, six.length() + 1);
        Check.fault(six + "form a int;", 2, six.length());
        Check.fault(six + "form g int 9;", 2, six.length());
        Check.fault(six + "big;line 5;form g int;x", 2, six.length() + 11);
        Check.fault(six + "big;line 5;x form g int;", 1, six.length() + 11);
        Check.fault(six.replace('b', 'a') + "form g int;", 2, six.length());
    }

    private static void memberRoom() {
        Doc.says(I, "a 9th MEMBER (at it),");
        Check.fault("form a" + " int".repeat(8) + ";", 0, -1);
        Check.fault("form a" + " int".repeat(9) + ";", 2, 39);
        Check.fault("form a" + " int 4".repeat(8) + ";", 0, -1);
        Check.fault("form a" + " int 4".repeat(8) + "  flag;", 2, 56);
        Check.fault("form a" + " int 4".repeat(8) + " ptr", 2, 55);
        Check.fault("form a" + " int 4".repeat(8) + " 5", 1, 55);
        Check.fault("form a" + " int".repeat(8) + ";form b" + " int".repeat(9) + ";", 2, 78);
    }

    private static void byteRoom() {
        Doc.says(I, "a 17th byte (at it).");
        Check.fault("fill 0" + " 1".repeat(16) + ";", 0, -1);
        Check.fault("fill 0" + " 1".repeat(17) + ";", 2, 39);
        Check.fault("fill 0" + " 1".repeat(16) + "  999", 2, 40);
        Check.fault("fill 0" + " 1".repeat(16) + " 99999", 1, 39);
        Check.fault("fill 0" + " 1".repeat(16) + ";fill 16" + " 1".repeat(16) + ";", 0, -1);
    }

    private static void twice() {
        Doc.says(I, "3 TWICE: (at it) a FORM's NAME told already.");
        Check.fault("form a int;form b int;form  a int;", 3, 28);
        Check.fault("form a int;form b int;form b int;", 3, 27);
        Check.fault("form abcdefgh int;form abcdefgh int;", 3, 23);
        Check.fault("form abcdefgh int;form abcdefgi int;form bbcdefgh int;form abcdefg int;", 0, -1);
        Check.fault("form a int;form aa int;form aaa int;", 0, -1);
        Check.fault("form a int 5;form a int;", 5, 11);
        String pairs = "aa aq aa ca aa ba ab ba za a abcdefgh abcdefgi bbcdefgh abcdefgh zaaaaaaa aaaaaaaa aaaaaaaz aaaaaaab";
        String[] names = pairs.split(" ");
        for (int i = 1; i < names.length; i++) {
            Check.fault("form " + names[i - 1] + " int;form " + names[i] + " int;", 0, -1);
        }
        // NAMES of texts ahead, with a FAULT or without, are told no more
        GuestCalls x = Check.told("form a int;form b int;");
        Check.lay(x, "form a int;form b int;x");
        Check.due("a text with a fault", x.read(), 1);
        for (int times = 0; times < 3; times++) {
            Check.tell(x, "form a int;form b int;");
        }
    }

    private static void wrongLine() {
        Doc.says(I, "5 WRONG: (at the INT) a LINE not 1 .. 256,");
        Check.fault("line 1;", 0, -1);
        Check.fault("line 256;", 0, -1);
        Check.fault("line  0;", 5, 6);
        Check.fault("line 257;", 5, 5);
        Check.fault("line 9999;", 5, 5);
        Check.fault("line 0000;", 5, 5);
        Check.fault("line 300;line 5;", 5, 5);
        Check.fault("line 5;line 300;", 5, 12);
    }

    private static void wrongCells() {
        Doc.says(I, "CELLS not 1 .. 4,");
        Check.fault("form a int 1 int 4;", 0, -1);
        Check.fault("form a int 0;", 5, 11);
        Check.fault("form a int 5;", 5, 11);
        Check.fault("form a int 9999;", 5, 11);
        Check.fault("form a int 4 byte 4 char 0 int 9;", 5, 25);
        Check.fault("form a" + " int 9".repeat(8) + ";", 5, 11);
    }

    private static void wrongAddress() {
        Doc.says(I, "an address above 255,");
        Check.fault("fill 255 1;", 0, -1);
        Check.fault("fill 256 1;", 5, 5);
        Check.fault("fill 9999 1 999;", 5, 5);
        Check.fault("line 1;fill 256 1;", 5, 12);
    }

    private static void wrongByte() {
        Doc.says(I, "a byte above 255,");
        Check.fault("fill 0 255;", 0, -1);
        Check.fault("fill 0 256;", 5, 7);
        Check.fault("fill 0 1 2 9999 3 256;", 5, 11);
        Check.fault("fill 0" + " 1".repeat(15) + " 256;", 5, 37);
    }

    private static void wrongEnd() {
        Doc.says(I, "a byte that would lie beyond 255.");
        Check.fault("fill 254 1 2;", 0, -1);
        Check.fault("fill 254 1 2 3;", 5, 13);
        Check.fault("fill 255 1 2;", 5, 11);
        Check.fault("fill 240" + " 1".repeat(16) + ";", 0, -1);
        Check.fault("fill 241" + " 1".repeat(16) + ";", 5, 39);
        Check.fault("line 9;fill 255 1 2;", 5, 18);
    }

    private static void roomAndSyntaxFirst() {
        Doc.says(I, "(3 and 5 are looked for if there is no 1 or 2.)");
        Check.fault("line 0;x", 1, 7);
        Check.fault("line 0;big", 1, 10);
        Check.fault("line 0", 1, 6);
        Check.fault("form a int;form a int", 1, 21);
        Check.fault("form a int 9 big;", 1, 13);
        Check.fault("fill 256 256 x", 1, 13);
        Check.fault("line 0;fill 0" + " 1".repeat(17) + ";", 2, 46);
        Check.fault("form a int;form a" + " int".repeat(9) + ";", 2, 50);
        Check.fault("line 0;" + BIGS, 2, 802);
        Check.fault("form a int;".repeat(7), 2, 66);
    }

    /** An object with something of all that can be kept; why() tells 5. */
    private static GuestCalls used() {
        GuestCalls x = Check.told("big;line 100;form a int 2;form b ptr;fill 3 9;fill 200 7;");
        x.bin(0, 8, 3);
        x.put(0, 0, 8, 5);
        x.put(0, 1, 9, 0);
        x.bin(1, 10, 0);
        x.hold(1);
        Check.row(x, 2, 5, 77, -1);
        x.sets(2, 5);
        x.frame();
        x.poke(100, 1);
        return x;
    }

    private static void faultsChangeNothing() {
        Doc.says(I, "A text with a FAULT changes nothing but the tape;");
        String told = "fill 3 8;line 50;form b byte;form c byte;fill 60 1;";
        String[] texts = {told + "x", told + "form d" + " int".repeat(9) + ";", told + "form b int;", told + "line 0;"};
        int[] faults = {1, 2, 3, 5};
        for (int t = 0; t < texts.length; t++) {
            GuestCalls x = used();
            Check.lay(x, texts[t]);
            Check.due("read() of " + texts[t], x.read(), faults[t]);
            Check.due("the tape", x.count(5), 0);
            Check.due("why() stays", x.why(), 5);
            Check.due("count(9) stays", x.count(9), 1);
            GuestCalls y = used();
            Check.same("behind " + texts[t], x, y);
            Check.due("restore(1)", x.restore(1), true);
            Check.due("restore(1)", y.restore(1), true);
            Check.due("bins of the slot", x.count(7), y.count(7));
            x.sets(2, 1);
            Check.due("frame()", x.frame(), 64);
            Check.bytes(x, 64 + 8, 0, 0, 0, 1);
        }
    }

    private static void goodTextsBeginAnew() {
        Doc.says(I, "else all is as at first but what it tells;");
        GuestCalls x = used();
        Check.tell(x, "");
        Check.due("why() as at first", x.why(), 0);
        Check.due("count(9) as at first", x.count(9), 0);
        Check.same("behind an empty text", x, new GuestCalls());
        GuestCalls y = used();
        Check.tell(y, "form c byte;line 60;fill 1 2;");
        Check.same("behind another text", y, Check.told("form c byte;line 60;fill 1 2;"));
        // what a text with a FAULT told is gone, too, and what the texts ahead of it did
        String wrong = "big;line 9;fill 0 1 2 3;form q ptr int;form q int;";
        GuestCalls z = used();
        Check.lay(z, wrong);
        Check.due("a text with a fault", z.read(), 3);
        Check.tell(z, "form r char;");
        Check.same("behind two texts", z, Check.told("form r char;"));
        GuestCalls w = used();
        for (String text : new String[] {wrong, "form r char;", wrong, wrong, "big;fill 9 9;", "form s int;"}) {
            Check.lay(w, text);
            w.read();
        }
        Check.same("behind seven texts", w, Check.told("form s int;"));
        w.sets(0, 1);
        Check.due("frame()", w.frame(), 220);
        Check.bytes(w, 220, 1, 0, 0, 0);
    }

    private static void slotsHoldNothing() {
        Doc.says(I, "SLOTS hold nothing.");
        GuestCalls x = Check.told("big;");
        x.hold(0);
        x.hold(1);
        Check.tell(x, "line 50;");
        Check.due("slots", x.count(6), 0);
        Check.due("restore(0)", x.restore(0), false);
        Check.due("restore(1)", x.restore(1), false);
        Check.due("line", x.count(1), 50);
    }
}

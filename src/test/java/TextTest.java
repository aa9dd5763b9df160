/** Promises 1 to 6 and Terms I: a new object, the tape, texts and their FAULTS. */
public final class TextTest {
    public static void main(String[] args) {
        newObject();
        tape();
        goodTexts();
        syntax();
        tokens();
        tapeEnds();
        room();
        tokenRoom();
        twiceAndWrong();
        faultsChangeNothing();
        readBeginsAnew();
        Check.end("TextTest");
    }

    private static void newObject() {
        GuestCalls x = new GuestCalls();
        Check.due("forms", x.count(0), 0);
        Check.due("line", x.count(1), 256);
        Check.due("big", x.count(2), 0);
        Check.due("bytes used", x.count(8), 0);
        Check.due("place", x.place(), -1);
        Check.due("why", x.why(), 0);
        for (int i = 0; i < 256; i++) {
            Check.due("byteAt", x.byteAt(i), 0);
        }
        for (int b = 0; b < 8; b++) {
            Check.due(x, "length of a new bin", x.length(b), -1, 3);
            Check.due("register", x.register(b), 0);
        }
    }

    private static void tape() {
        GuestCalls x = new GuestCalls();
        Check.due("back(0)", x.back(0), 0);
        Check.due("back(1)", x.back(1), -1);
        Check.due("back(-1)", x.back(-1), -1);
        for (int i = 1; i <= 100; i++) {
            Check.due("feed", x.feed(0x20202020, 0x20202020, 0x20202020, 0x20202020, 0x20202020), 20 * i);
        }
        Check.due("feed beyond", x.feed(0, 0, 0, 0, 0), -1);
        Check.due("tape", x.count(5), 2000);
        Check.due("back(19)", x.back(19), 1981);
        Check.due("feed beyond by one", x.feed(0, 0, 0, 0, 0), -1);
        Check.due("tape", x.count(5), 1981);
        Check.due("back(1)", x.back(1), 1980);
        Check.due("feed to the end", x.feed(0, 0, 0, 0, 0), 2000);
        Check.due("back(20)", x.back(20), 1980);
        Check.due("back(1981)", x.back(1981), -1);
        Check.due("back(-2147483648)", x.back(Integer.MIN_VALUE), -1);
        Check.due("back(2147483647)", x.back(Integer.MAX_VALUE), -1);
        Check.due("read of blanks", x.read(), 0);
        Check.due("tape behind read", x.count(5), 0);
        // 'bi' 'g;' with the highest byte first
        Check.due("feed big", x.feed(0x6269673B, 0x090A0D20, 0x20202020, 0x20202020, 0x20202020), 20);
        Check.due("read", x.read(), 0);
        Check.due("big", x.count(2), 1);
    }

    private static void goodTexts() {
        Check.fault("", 0, -1);
        Check.fault(" \t\n\r", 0, -1);
        Check.fault("big;", 0, -1);
        Check.fault("big ; big;line 1;line 256;", 0, -1);
        Check.fault("form abcdefgh flag4byte 1char short int long float double;", 0, -1);
        Check.fault("form bigx quad ptr;form b quad;", 0, -1);
        Check.fault("fill0 0;fill 255 255;fill 0000 0001 ;", 0, -1);
        Check.fault("fill 240 1 2 3 4 5 6 7 8 9 10 11 12 13 14 15 16;", 0, -1);
        GuestCalls x = Check.told("line 7;line 9;fill 8 1 2;fill 9 3;");
        Check.due("the last line", x.count(1), 9);
        Check.bytes(x, 7, 0, 1, 3, 0);
    }

    private static void syntax() {
        Check.fault("x", 1, 0);
        Check.fault(" ;", 1, 1);
        Check.fault("big", 1, 3);
        Check.fault("big  ", 1, 5);
        Check.fault("big big;", 1, 4);
        Check.fault("bigline;", 1, 0);
        Check.fault("line;", 1, 4);
        Check.fault("line 5", 1, 6);
        Check.fault("line 5 6;", 1, 7);
        Check.fault("line x;", 1, 5);
        Check.fault("form;", 1, 4);
        Check.fault("form a;", 1, 6);
        Check.fault("form a 1;", 1, 7);
        Check.fault("form big int;", 1, 5);
        Check.fault("form flag int;", 1, 5);
        Check.fault("form fill int;", 1, 5);
        Check.fault("form a int 1 2;", 1, 13);
        Check.fault("form a int b;", 1, 11);
        Check.fault("form a int line 2;", 1, 11);
        Check.fault("form a int", 1, 10);
        Check.fault("form a int 2", 1, 12);
        Check.fault("fill 3;", 1, 6);
        Check.fault("fill;", 1, 4);
        Check.fault("fill 1 2", 1, 8);
        Check.fault("fill 1 a;", 1, 7);
        Check.fault("7;", 1, 0);
        Check.fault("int;", 1, 0);
        Check.fault("big;ptr;", 1, 4);
    }

    private static void tokens() {
        Check.fault("form abcdefghi int;", 1, 5);
        Check.fault("form A int;", 1, 5);
        Check.fault("form a_b int;", 1, 6);
        Check.fault("line 00012;", 1, 5);
        Check.fault("line 0012;", 0, -1);
        Check.fault("line -1;", 1, 5);
        Check.fault("big:", 1, 3);
        Check.fault("big;" + (char) 0, 1, 4);
        Check.fault("big;" + (char) 255, 1, 4);
        Check.fault("big;" + (char) 160, 1, 4);
        Check.fault("big;" + (char) 11, 1, 4);
        Check.fault("big;" + (char) 96, 1, 4);
        Check.fault("big;{", 1, 4);
        Check.fault("fill 1 2:", 1, 8);
        Check.fault("fill 1 2/", 1, 8);
        Check.fault("form az zz;", 1, 8);
        Check.fault("form zebra int;", 0, -1);
    }

    // What lay behind the tape's end, or beyond its room, is no part of the text.
    private static void tapeEnds() {
        GuestCalls x = new GuestCalls();
        Check.lay(x, "big;bigx 1234");
        x.back(6);
        Check.due("read", x.read(), 1);
        Check.due("place", x.place(), 7);
        Check.lay(x, "line 1234");
        x.back(2);
        Check.due("read", x.read(), 1);
        Check.due("place", x.place(), 7);
        String blanks = " ".repeat(1993);
        Check.fault(blanks + "big;big", 1, 2000);
        Check.fault(blanks + "line 12", 1, 2000);
        Check.fault(blanks + "  big; ", 0, -1);
        Check.fault(blanks + "   big;", 0, -1);
    }

    private static void room() {
        String five = "form a int;form b int;form c int;form d int;form e int;";
        Check.fault(five + "form f int;", 0, -1);
        Check.fault(five + "form f int; form g int;", 2, five.length() + 12);
        Check.fault(five + "form f int; form ;", 2, five.length() + 12);
        Check.fault(five + "form f int; form", 2, five.length() + 12);
        Check.fault("form a int int int int int int int int;", 0, -1);
        Check.fault("form a int int int int int int int int ptr;", 2, 39);
        Check.fault("form a int 4 int int int int int int int 4 x", 1, 43);
        Check.fault("form a int 4 int int int int int int int 4 int 9", 2, 43);
        Check.fault("fill 0 1 2 3 4 5 6 7 8 9 0 1 2 3 4 5 6 ;", 0, -1);
        Check.fault("fill 0 1 2 3 4 5 6 7 8 9 0 1 2 3 4 5 6 7;", 2, 39);
        // a space too many goes ahead of what is wrong further on the left
        Check.fault("line 0;fill 0 1 2 3 4 5 6 7 8 9 0 1 2 3 4 5 6 7;", 2, 46);
        Check.fault("line 0;fill 999 256 x", 1, 20);
    }

    private static void tokenRoom() {
        StringBuilder bigs = new StringBuilder();
        for (int i = 0; i < 200; i++) {
            bigs.append("big;");
        }
        Check.fault(bigs.toString(), 0, -1);
        Check.fault(bigs + "big;", 2, 800);
        Check.fault(bigs + "  line 5;", 2, 802);
        Check.fault(bigs + "int", 1, 800);
        Check.fault(bigs + "A", 1, 800);
        Check.fault(bigs + "   ", 0, -1);
        String most = bigs.substring(4);
        Check.fault(most + "line 4;", 2, 802);
        Check.fault(most + "line 4 4", 1, 803);
        Check.fault(most + "line 4", 1, 802);
        Check.fault(most + "fill 4 4;", 2, 803);
        Check.fault(most + "form a int;", 2, 803);
        Check.fault(most + "form a;", 1, 802);
        Check.fault(bigs.substring(8) + "form a int 3;", 2, 804);
        Check.fault(bigs.substring(8) + "form a int;", 0, -1);
        Check.fault("line 0;" + bigs, 2, 802);
        Check.fault("line 4;" + bigs.substring(12) + "form a int 3;", 2, 806);
    }

    private static void twiceAndWrong() {
        Check.fault("form a int;form b int;form a int;", 3, 27);
        Check.fault("form a int;form a int 5;", 3, 16);
        Check.fault("form a int 5;form a int;", 5, 11);
        Check.fault("form a int;form aa int;", 0, -1);
        Check.fault("line 0;", 5, 5);
        Check.fault("line 257;", 5, 5);
        Check.fault("line 257;line 3;", 5, 5);
        Check.fault("line 9999;", 5, 5);
        Check.fault("form a int 0;", 5, 11);
        Check.fault("form a int 5;", 5, 11);
        Check.fault("form a int 4 byte 9999;", 5, 18);
        Check.fault("fill 256 1;", 5, 5);
        Check.fault("fill 255 1 1;", 5, 11);
        Check.fault("fill 255 1;", 0, -1);
        Check.fault("fill 250 1 2 3 4 5 6 7 8;", 5, 21);
        Check.fault("fill 3 256;", 5, 7);
        Check.fault("fill 3 255 0 256;", 5, 13);
        Check.fault("line 300;form a int;form a int;", 5, 5);
        Check.fault("fill 0 1;line 0;big", 1, 19);
    }

    private static void faultsChangeNothing() {
        GuestCalls x = Check.told("big;line 100;form a int;fill 3 9;");
        x.bin(0, 5, 5);
        x.write(0, 0, 5, 77);
        x.sets(2, 5);
        x.frame();
        x.hold(1);
        x.poke(100, 1);
        for (String text : new String[] {"fill 3 8;line 50;form b ptr;line 0;", "fill 3 8;line 50;form b ptr;x"}) {
            Check.lay(x, text);
            Check.due("a fault", x.read() > 0, true);
            Check.due("why stays", x.why(), 5);
            Check.due("line stays", x.count(1), 100);
            Check.due("forms stay", x.count(0), 1);
            Check.due("big stays", x.count(2), 1);
            Check.due("frames stay", x.count(3), 1);
            Check.due("slots stay", x.count(6), 1);
            Check.due("refusals stay", x.count(9), 1);
            Check.due("a byte stays", x.byteAt(3), 9);
            Check.due("a kind stays", x.layout(0, false, 0, 0), 4);
            Check.due("a register stays", x.register(2), 5);
            Check.due("tape is empty", x.count(5), 0);
        }
        Check.due("a cell stays", x.cell(0, 0, 5), 77);
        Check.due("a slot stays", x.restore(1), true);
        x.read();
        Check.due("place behind a good text", x.place(), -1);
    }

    private static void readBeginsAnew() {
        GuestCalls x = Check.told("big;line 100;form a int;form b ptr;fill 3 9;");
        x.bin(0, 5, 5);
        x.bin(7, 10, 0);
        x.sets(2, 5);
        x.frame();
        x.hold(0);
        x.poke(100, 1);
        Check.lay(x, "form c byte;");
        Check.due("read", x.read(), 0);
        int[] counts = {1, 256, 0, 0, 256, 0, 0, 0, 0, 0};
        for (int what = 0; what < counts.length; what++) {
            Check.due("count(" + what + ")", x.count(what), counts[what]);
        }
        Check.due("why", x.why(), 0);
        Check.due("register", x.register(2), 0);
        Check.due("restore", x.restore(0), false);
        Check.due("form a is gone", x.layout(0, true, 0, 0), 1);
        Check.bytes(x, 0, 0, 0, 0, 0);
        Check.due("form b is gone", x.layout(1, true, 0, 0), -1);
        Check.due(x, "the bin is empty", x.length(0), -1, 3);
        Check.due("read of nothing", x.read(), 0);
        Check.due("forms behind it", x.count(0), 0);
    }
}

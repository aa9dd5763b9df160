/** Promises 7 and 8: LAYOUT and ARGUMENTS. */
public final class LayoutTest {
    public static void main(String[] args) {
        everyKind();
        mixed();
        sizes();
        noSuch();
        argumentsInOrder();
        evenRegisters();
        stack();
        noSuchArgument();
        Check.end("LayoutTest");
    }

    private static void everyKind() {
        String[] words = {"flag", "byte", "char", "short", "int", "long", "float", "double", "quad", "ptr"};
        int[] small = {1, 1, 2, 2, 4, 4, 4, 8, 8, 4};
        int[] wide = {1, 1, 2, 2, 4, 8, 4, 8, 8, 8};
        for (int k = 0; k < 10; k++) {
            GuestCalls x = Check.told("form a byte " + words[k] + " 3;");
            int smallMultiple = Math.min(small[k], 4);
            Check.due(words[k], x.layout(0, false, 1, 0), k);
            Check.due(words[k], x.layout(0, true, 1, 0), k);
            Check.due(words[k], x.layout(0, true, 1, 1), 3);
            Check.due(words[k], x.layout(0, false, 1, 2), smallMultiple);
            Check.due(words[k], x.layout(0, true, 1, 2), wide[k]);
            Check.due(words[k], x.layout(0, false, 1, 3), 3 * small[k]);
            Check.due(words[k], x.layout(0, true, 1, 3), 3 * wide[k]);
            Check.due(words[k], x.layout(0, false, -1, 0), 2);
            Check.due(words[k], x.layout(0, false, -1, 1), 4);
            Check.due(words[k], x.layout(0, false, -1, 2), smallMultiple);
            Check.due(words[k], x.layout(0, true, -1, 2), wide[k]);
            Check.due(words[k], x.layout(0, false, -1, 3), smallMultiple + 3 * small[k]);
            Check.due(words[k], x.layout(0, true, -1, 3), wide[k] * 4);
        }
    }

    private static void mixed() {
        GuestCalls x = Check.told("form a char byte 3 int short quad byte; form b byte 3;");
        int[] small = {0, 2, 8, 12, 16, 24};
        int[] wide = {0, 2, 8, 12, 16, 24};
        for (int m = 0; m < 6; m++) {
            Check.due("small offset " + m, x.layout(0, false, m, 2), small[m]);
            Check.due("wide offset " + m, x.layout(0, true, m, 2), wide[m]);
        }
        Check.due("small size", x.layout(0, false, -1, 3), 28);
        Check.due("wide size", x.layout(0, true, -1, 3), 32);
        Check.due("odd size", x.layout(1, false, -1, 3), 3);
        Check.due("least multiple", x.layout(1, true, -1, 2), 1);
    }

    private static void sizes() {
        GuestCalls x = Check.told("form a ptr 4 long 4 quad 4 double 4 ptr 4 long 4 quad 4 double 4;");
        Check.due("greatest wide size", x.layout(0, true, -1, 3), 256);
        Check.due("greatest small size", x.layout(0, false, -1, 3), 192);
        Check.due("most cells", x.layout(0, false, -1, 1), 32);
        Check.due("most members", x.layout(0, false, -1, 0), 8);
        Check.due("last offset", x.layout(0, false, 7, 2), 160);
    }

    private static void noSuch() {
        GuestCalls x = Check.told("form a int;");
        int[][] bad = {{1, 0, 0}, {-1, 0, 0}, {0, 1, 0}, {0, -2, 0}, {0, 0, 4}, {0, 0, -1}, {0, -1, 4}, {0, -1, -1},
            {Integer.MAX_VALUE, 0, 0}, {Integer.MIN_VALUE, 0, 0}, {0, Integer.MAX_VALUE, 0}, {0, 0, Integer.MIN_VALUE}};
        for (int[] b : bad) {
            Check.due("layout " + b[0] + " " + b[1] + " " + b[2], x.layout(b[0], true, b[1], b[2]), -1);
            Check.due("layout " + b[0] + " " + b[1] + " " + b[2], x.layout(b[0], false, b[1], b[2]), -1);
        }
        x.poke(256, 0);
        x.layout(0, true, 0, 0);
        x.argument(0, 0, 0);
        Check.due("why stays", x.why(), 5);
    }

    private static void passed(GuestCalls x, int c, int register, int offset, int taken) {
        Check.due("register of " + c, x.argument(0, c, 0), register);
        Check.due("offset of " + c, x.argument(0, c, 1), offset);
        Check.due("taken up to " + c, x.argument(0, c, 2), taken);
    }

    private static void argumentsInOrder() {
        GuestCalls x = Check.told("form a flag byte char short long ptr float;");
        for (int c = 0; c < 6; c++) {
            passed(x, c, c, -2, c + 1);
        }
        passed(x, 6, -2, 0, 6);
    }

    private static void evenRegisters() {
        GuestCalls x = Check.told("form a int double byte quad int;");
        passed(x, 0, 0, -2, 1);
        passed(x, 1, 2, -2, 4);
        passed(x, 2, 4, -2, 5);
        passed(x, 3, -2, 0, 5);
        passed(x, 4, -2, 8, 5);
        GuestCalls y = Check.told("form a quad double quad quad;");
        passed(y, 0, 0, -2, 2);
        passed(y, 1, 2, -2, 4);
        passed(y, 2, 4, -2, 6);
        passed(y, 3, -2, 0, 6);
    }

    private static void stack() {
        GuestCalls x = Check.told("form a quad 3 byte quad char int 2 double long;");
        passed(x, 3, -2, 0, 6);
        passed(x, 4, -2, 8, 6);
        passed(x, 5, -2, 16, 6);
        passed(x, 6, -2, 20, 6);
        passed(x, 7, -2, 24, 6);
        passed(x, 8, -2, 32, 6);
        passed(x, 9, -2, 40, 6);
    }

    private static void noSuchArgument() {
        GuestCalls x = Check.told("form a int 2;");
        int[][] bad = {{1, 0, 0}, {-1, 0, 0}, {0, 2, 0}, {0, -1, 0}, {0, 0, 3}, {0, 0, -1},
            {Integer.MAX_VALUE, 0, 0}, {0, Integer.MIN_VALUE, 0}};
        for (int[] b : bad) {
            Check.due("argument " + b[0] + " " + b[1] + " " + b[2], x.argument(b[0], b[1], b[2]), -1);
        }
    }
}

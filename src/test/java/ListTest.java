/** Promises 23 and 24: lists of buffers, gathered and scattered. */
public final class ListTest {
    public static void main(String[] args) {
        lists();
        listRefusals();
        emptyBuffers();
        bigList();
        gathers();
        scatters();
        overlaps();
        moveRefusals();
        Check.end("ListTest");
    }

    private static void lists() {
        GuestCalls x = Check.told("line 200;");
        Check.buffer(x, 100, 0, 5);
        Check.buffer(x, 108, 199, 1);
        Check.buffer(x, 116, 50, 0);
        Check.buffer(x, 124, 0, 200);
        int[] totals = {0, 5, 6, 6, 206};
        int[] empties = {0, 0, 0, 1, 1};
        int[] greatest = {0, 5, 5, 5, 200};
        for (int n = 0; n <= 4; n++) {
            Check.due(x, "bytes of " + n, x.list(100, n, 0), totals[n], 0);
            Check.due(x, "empties of " + n, x.list(100, n, 1), empties[n], 0);
            Check.due(x, "greatest of " + n, x.list(100, n, 2), greatest[n], 0);
        }
        GuestCalls y = new GuestCalls();
        for (int i = 0; i < 8; i++) {
            Check.buffer(y, 8 * i, 0, 256);
        }
        Check.due(y, "eight of all bytes", y.list(0, 8, 0), 2048, 0);
        Check.due(y, "too many to gather", y.move(0, 8, 0, true), -1, 5);
    }

    private static void listRefusals() {
        GuestCalls x = Check.told("line 200;");
        Check.due(x, "no such n", x.list(0, -1, 0), -1, 0);
        Check.due(x, "no such n", x.list(0, 9, 0), -1, 0);
        Check.due(x, "no such what", x.list(-1, 1, 3), -1, 0);
        Check.due(x, "no such what", x.list(-1, 1, -1), -1, 0);
        Check.due(x, "a list at the line", x.list(192, 1, 0), 0, 0);
        Check.due(x, "a list beyond", x.list(193, 1, 0), -1, 5);
        Check.due(x, "a list below", x.list(-1, 1, 0), -1, 5);
        Check.due(x, "a list far", x.list(Integer.MAX_VALUE, 8, 0), -1, 5);
        Check.due(x, "no list at all", x.list(Integer.MIN_VALUE, 0, 2), 0, 0);
        Check.buffer(x, 0, 200, 1);
        Check.due(x, "a buffer beyond", x.list(0, 1, 0), -1, 5);
        Check.buffer(x, 0, 4294967295L, 1);
        Check.due(x, "a buffer far beyond", x.list(0, 1, 0), -1, 5);
        Check.buffer(x, 0, 4294967295L, Integer.MAX_VALUE);
        Check.due(x, "a buffer far beyond", x.list(0, 1, 0), -1, 5);
        Check.buffer(x, 0, 4294967295L, -1);
        Check.due(x, "fewer than 0 bytes", x.list(0, 1, 0), -1, 6);
        Check.buffer(x, 8, 0, 201);
        Check.due(x, "the first wrong one", x.list(0, 2, 0), -1, 6);
        Check.buffer(x, 16, 0, -1);
        Check.due(x, "the first wrong one", x.list(8, 2, 0), -1, 5);
    }

    private static void emptyBuffers() {
        GuestCalls x = Check.told("line 50;");
        Check.buffer(x, 0, 4294967295L, 0);
        Check.buffer(x, 8, 51, 0);
        Check.buffer(x, 16, 3, 2);
        Check.due(x, "empty ones touch none", x.list(0, 3, 1), 2, 0);
        Check.due(x, "no bytes anywhere", x.move(0, 2, -7, true), 0, 0);
        Check.due(x, "no bytes anywhere", x.move(0, 2, 999, false), 0, 0);
        Check.due(x, "gather behind empty ones", x.move(0, 3, 40, true), 2, 0);
        Check.bytes(x, 40, 255, 0, 0);
    }

    private static void bigList() {
        GuestCalls x = Check.told("big;fill 0 0 0 0 16 0 0 0 2 0 0 0 32 0 0 0 1;fill 16 5 6;fill 32 7;");
        Check.due(x, "highest first", x.list(0, 2, 0), 3, 0);
        Check.due(x, "gather", x.move(0, 2, 100, true), 3, 0);
        Check.bytes(x, 100, 5, 6, 7, 0);
    }

    private static void gathers() {
        GuestCalls x = Check.told("line 200;fill 0 1 2 3 4 5 6 7 8;");
        Check.buffer(x, 100, 4, 3);
        Check.buffer(x, 108, 9, 0);
        Check.buffer(x, 116, 0, 2);
        Check.due(x, "gather", x.move(100, 3, 50, true), 5, 0);
        Check.bytes(x, 49, 0, 5, 6, 7, 1, 2, 0);
        Check.due(x, "gather to the line", x.move(100, 3, 195, true), 5, 0);
        Check.bytes(x, 195, 5, 6, 7, 1, 2, 0);
    }

    private static void scatters() {
        GuestCalls x = Check.told("line 200;fill 0 1 2 3 4 5 6 7 8;");
        Check.buffer(x, 100, 50, 3);
        Check.buffer(x, 108, 60, 2);
        Check.due(x, "scatter", x.move(100, 2, 1, false), 5, 0);
        Check.bytes(x, 49, 0, 2, 3, 4, 0);
        Check.bytes(x, 59, 0, 5, 6, 0);
        GuestCalls y = Check.told("line 200;fill 0 1 2 3 4 5 6 7 8;");
        int[] starts = {50, 99, 60, 70, 80};
        int[] sizes = {2, 0, 1, 3, 1};
        for (int i = 0; i < 5; i++) {
            Check.buffer(y, 100 + 8 * i, starts[i], sizes[i]);
        }
        Check.due(y, "scatter over five", y.move(100, 5, 1, false), 7, 0);
        Check.bytes(y, 49, 0, 2, 3, 0);
        Check.bytes(y, 59, 0, 4, 0);
        Check.bytes(y, 69, 0, 5, 6, 7, 0);
        Check.bytes(y, 79, 0, 8, 0);
        Check.due(y, "gather from five", y.move(100, 5, 20, true), 7, 0);
        Check.bytes(y, 20, 2, 3, 4, 5, 6, 7, 8, 0);
        Check.due(y, "none moved", y.move(100, 0, 20, true), 0, 0);
        Check.buffer(y, 100, 3, 1);
        Check.due(y, "a single byte", y.move(100, 1, 30, true), 1, 0);
        Check.bytes(y, 30, 4, 0);
    }

    private static void overlaps() {
        GuestCalls x = Check.told("fill 0 1 2 3 4 5 6 7 8;");
        Check.buffer(x, 100, 0, 4);
        Check.buffer(x, 108, 2, 4);
        Check.due(x, "gather over what is read", x.move(100, 2, 1, true), 8, 0);
        Check.bytes(x, 0, 1, 1, 2, 3, 4, 3, 4, 5, 6);
        GuestCalls y = Check.told("fill 0 1 2 3 4 5 6 7 8;");
        Check.buffer(y, 100, 0, 4);
        Check.buffer(y, 108, 2, 4);
        Check.due(y, "scatter over what is read", y.move(100, 2, 0, false), 8, 0);
        Check.bytes(y, 0, 1, 2, 5, 6, 7, 8, 7, 8);
        GuestCalls z = Check.told("fill 0 1 2 3 4 5 6 7 8;");
        Check.buffer(z, 100, 100, 8);
        Check.buffer(z, 108, 60, 2);
        Check.due(z, "scatter over the list", z.move(100, 2, 0, false), 10, 0);
        Check.bytes(z, 100, 1, 2, 3, 4, 5, 6, 7, 8, 60);
    }

    private static void moveRefusals() {
        GuestCalls x = Check.told("line 120;fill 0 1 2 3;");
        Check.buffer(x, 100, 0, 3);
        Check.due(x, "no such n", x.move(-1, -1, 0, true), -1, 0);
        Check.due(x, "no such n", x.move(-1, 9, 0, true), -1, 0);
        Check.due(x, "beyond", x.move(100, 1, 118, true), -1, 5);
        Check.due(x, "beyond", x.move(100, 1, 118, false), -1, 5);
        Check.due(x, "below", x.move(100, 1, -1, false), -1, 5);
        Check.due(x, "a list beyond", x.move(113, 1, 0, true), -1, 5);
        Check.due(x, "to the line", x.move(100, 1, 117, true), 3, 0);
        Check.buffer(x, 100, 0, -3);
        Check.due(x, "6 of a buffer ahead of the line", x.move(100, 1, -1, true), -1, 6);
        Check.bytes(x, 0, 1, 2, 3, 0);
    }
}

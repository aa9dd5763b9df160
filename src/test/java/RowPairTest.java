/** Promises 17 to 19: ROWS copied, pasted and compared. */
public final class RowPairTest {
    public static void main(String[] args) {
        copies();
        copyRefusals();
        pastes();
        pasteRefusals();
        wordsAndAny();
        unlikeNumbers();
        unlikeBoxes();
        unlikeRefusals();
        Check.end("RowPairTest");
    }

    private static void copies() {
        GuestCalls x = new GuestCalls();
        Check.row(x, 0, 3, 1, 2, 3, 4, 5);
        x.bin(1, 5, 5);
        Check.due(x, "copy", x.copy(0, 1, 1, 0, 3, 4), 3, 0);
        Check.holds(x, 1, 2, 3, 4, 0, 0);
        Check.due(x, "copy of none", x.copy(0, 9, 1, 9, 0, 4), 0, 0);
        Check.due(x, "copy of none from nothing", x.copy(5, 0, 6, 0, 0, 4), 0, 0);
        // one by one: what is copied already is copied on
        Check.due(x, "copy within", x.copy(0, 0, 0, 1, 4, 3), 4, 0);
        Check.holds(x, 0, 1, 1, 1, 1, 1);
        x.bin(2, 5, 1);
        x.write(2, 0, 5, 16777217);
        x.bin(3, 7, 1);
        Check.due(x, "copy as float", x.copy(2, 0, 3, 0, 1, 6), 1, 0);
        Check.due("a rounded float", x.cell(3, 0, 7), 16777216);
        Check.row(x, 4, 3, 7, 8, 9);
        Check.due(x, "copy from below", x.copy(4, -2, 1, 0, 5, 3), 3, 1);
        Check.holds(x, 1, 2, 3, 7, 8, 9);
        Check.due(x, "copy to below", x.copy(4, 0, 1, -1, 3, 3), 2, 1);
        Check.holds(x, 1, 8, 9, 7, 8, 9);
        Check.due(x, "copy to beyond", x.copy(4, 0, 1, 4, 3, 3), 1, 1);
        Check.holds(x, 1, 8, 9, 7, 8, 7);
        Check.due(x, "copy far", x.copy(4, Integer.MAX_VALUE, 1, 0, 40, 3), 0, 1);
        Check.due(x, "copy far", x.copy(4, 0, 1, Integer.MAX_VALUE - 1, 3, 3), 0, 1);
        Check.due(x, "copy far", x.copy(4, Integer.MIN_VALUE, 1, 0, 3, 3), 0, 1);
    }

    private static void copyRefusals() {
        GuestCalls x = new GuestCalls();
        Check.row(x, 0, 4, 1, 2);
        x.bin(1, 10, 0);
        x.bin(2, 8, 3);
        x.bin(3, 3, 3);
        int before = x.count(9);
        Check.due(x, "copy narrower", x.copy(0, 0, 3, 0, 2, 4), 0, 2);
        Check.due("one call, one refusal", x.count(9), before + 1);
        Check.due(x, "copy read narrower", x.copy(0, 0, 3, 0, 2, 3), 0, 2);
        Check.due(x, "copy from nothing", x.copy(7, 0, 1, 0, 1, 4), 0, 3);
        Check.due(x, "copy to nothing", x.copy(0, 0, 7, 0, 1, 4), 0, 3);
        Check.due(x, "copy from the thing to nothing", x.copy(1, 0, 7, 0, 1, 4), 0, 2);
        Check.due(x, "copy from any", x.copy(2, 5, 0, 0, 1, 4), 0, 2);
        Check.due(x, "copy to any", x.copy(0, 0, 2, 5, 1, 4), 0, 2);
        Check.due(x, "reading refused ahead", x.copy(0, 2, 7, 0, 1, 4), 0, 1);
        // the first cell's refusal is told: the write of cell 1, then no such cell 2
        Check.due(x, "the first told", x.copy(0, 1, 3, 0, 2, 5), 0, 2);
        int[][] bad = {{8, 0, 1, 4}, {-1, 0, 1, 4}, {0, 8, 1, 4}, {0, -1, 1, 4}, {0, 0, 41, 4}, {0, 0, -1, 4},
            {0, 0, 1, 8}, {0, 0, 1, -1}};
        for (int[] b : bad) {
            x.length(7);
            Check.due(x, "no such copy", x.copy(b[0], 0, b[1], 0, b[2], b[3]), -1, 0);
        }
        Check.holds(x, 0, 1, 2);
    }

    private static void pastes() {
        GuestCalls x = new GuestCalls();
        Check.row(x, 0, 4, 1, 2, 3, 4, 5);
        Check.due(x, "paste up", x.paste(0, 0, 0, 1, 4), true, 0);
        Check.holds(x, 0, 1, 1, 2, 3, 4);
        Check.due(x, "paste down", x.paste(0, 1, 0, 0, 4), true, 0);
        Check.holds(x, 0, 1, 2, 3, 4, 4);
        Check.row(x, 1, 4, 0, 0, 0);
        Check.due(x, "paste", x.paste(0, 2, 1, 1, 2), true, 0);
        Check.holds(x, 1, 0, 3, 4);
        Check.due(x, "paste none at the end", x.paste(0, 5, 1, 3, 0), true, 0);
        Check.row(x, 2, 0, 1, 0, 1);
        x.bin(3, 0, 3);
        Check.due(x, "paste flags", x.paste(2, 0, 3, 0, 3), true, 0);
        Check.holds(x, 3, 1, 0, 1);
    }

    private static void pasteRefusals() {
        GuestCalls x = new GuestCalls();
        Check.row(x, 0, 4, 1, 2, 3);
        Check.row(x, 1, 5, 7, 8, 9);
        x.bin(2, 10, 0);
        x.bin(3, 8, 3);
        Check.row(x, 4, 4, 5, 6);
        Check.due(x, "nothing and the thing", x.paste(2, 0, 7, 0, 1), false, 3);
        Check.due(x, "the thing and nothing", x.paste(7, 0, 2, 0, 1), false, 3);
        Check.due(x, "the thing", x.paste(2, 0, 0, 0, 9), false, 2);
        Check.due(x, "into the thing", x.paste(0, 0, 2, 0, -1), false, 2);
        Check.due(x, "the thing into itself", x.paste(2, 0, 2, 0, 0), false, 2);
        Check.due(x, "int into long", x.paste(0, 0, 1, 0, 1), false, 2);
        Check.due(x, "int into any", x.paste(0, 0, 3, 0, 1), false, 2);
        Check.due(x, "any into int", x.paste(3, 0, 0, 0, 1), false, 2);
        Check.due(x, "too many", x.paste(0, 0, 4, 0, 3), false, 1);
        Check.due(x, "too many read", x.paste(4, 0, 0, 0, 3), false, 1);
        Check.due(x, "below", x.paste(0, -1, 4, 0, 1), false, 1);
        Check.due(x, "to below", x.paste(0, 0, 4, -1, 1), false, 1);
        Check.due(x, "n below 0", x.paste(0, 0, 4, 0, -1), false, 1);
        Check.due(x, "n far", x.paste(0, 1, 4, 1, Integer.MAX_VALUE), false, 1);
        Check.due(x, "i far", x.paste(0, Integer.MAX_VALUE, 4, 0, 2), false, 1);
        Check.due(x, "n least", x.paste(0, 0, 4, 0, Integer.MIN_VALUE), false, 1);
        Check.due(x, "none beyond the end", x.paste(0, 4, 4, 0, 0), false, 1);
        Check.holds(x, 0, 1, 2, 3);
        Check.holds(x, 4, 5, 6);
        x.length(7);
        Check.due(x, "paste(8)", x.paste(8, 0, 0, 0, 0), false, 0);
        x.length(7);
        Check.due(x, "paste to -1", x.paste(0, 0, -1, 0, 0), false, 0);
    }

    private static void wordsAndAny() {
        GuestCalls x = new GuestCalls();
        x.bin(0, 9, 4);
        x.bin(1, 8, 4);
        x.put(0, 0, 8, 3);
        x.put(0, 2, 8, 0);
        Check.due(x, "words into any", x.paste(0, 0, 1, 1, 3), true, 0);
        Check.due("a word", x.box(1, 1, 0), 8);
        Check.due("its letters", x.box(1, 1, 1), 3);
        Check.due("nothing", x.box(1, 2, 0), -2);
        Check.due("an empty word", x.box(1, 3, 0), 8);
        x.put(1, 2, 9, 0);
        x.bin(0, 9, 4);
        x.put(0, 2, 8, 6);
        Check.due(x, "any into words", x.paste(1, 0, 0, 0, 4), false, 2);
        Check.due("put ahead", x.box(0, 1, 1), 3);
        Check.due("not put", x.box(0, 2, 1), 6);
        Check.due("not put", x.box(0, 3, 0), -2);
        Check.due(x, "place ahead of that", x.paste(1, 0, 0, 1, 4), false, 1);
        Check.due(x, "any into words", x.paste(1, 3, 0, 3, 1), true, 0);
        Check.due("put", x.box(0, 3, 0), 8);
        Check.due(x, "any within", x.paste(1, 0, 1, 1, 3), true, 0);
        Check.due("the thing moved", x.box(1, 3, 0), 9);
    }

    private static void unlikeNumbers() {
        GuestCalls x = new GuestCalls();
        Check.row(x, 0, 4, 1, -2, 3);
        Check.row(x, 1, 7, 1, -2, 3);
        Check.due(x, "int and double", x.unlike(0, 1), -1, 0);
        x.write(1, 2, 7, 4);
        Check.due(x, "another one", x.unlike(0, 1), 2, 0);
        Check.row(x, 2, 1, 1, -2);
        Check.due(x, "one lacks", x.unlike(2, 0), 2, 0);
        Check.due(x, "other lacks", x.unlike(0, 2), 2, 0);
        Check.row(x, 3, 0, 1);
        Check.row(x, 4, 1, 1);
        Check.due(x, "flag and byte", x.unlike(3, 4), 0, 0);
        Check.row(x, 4, 0, 1);
        Check.due(x, "flags", x.unlike(3, 4), -1, 0);
        Check.row(x, 4, 0, 0);
        Check.due(x, "other flags", x.unlike(3, 4), 0, 0);
        x.bin(5, 5, 1);
        x.bin(6, 5, 1);
        x.write(5, 0, 5, 9007199254740992L);
        x.write(6, 0, 5, 9007199254740993L);
        Check.due(x, "the same as doubles", x.unlike(5, 6), -1, 0);
        x.bin(5, 2, 0);
        x.bin(6, 9, 0);
        Check.due(x, "empty rows", x.unlike(5, 6), -1, 0);
        Check.due(x, "an empty row", x.unlike(5, 0), 0, 0);
        GuestCalls y = Check.told("form f float; fill 3 128;");
        y.bin(0, 6, 1);
        y.bin(1, 7, 1);
        y.load(0, 0, 0);
        Check.due(y, "-0 and 0", y.unlike(0, 1), -1, 0);
    }

    private static void unlikeBoxes() {
        GuestCalls x = new GuestCalls();
        int[][] contents = {{0, 1}, {0, 0}, {1, 1}, {2, 1}, {7, 1}, {5, 0}, {8, 1}, {8, 2}, {9, 0}, {10, 0}};
        x.bin(0, 8, 1);
        x.bin(1, 8, 1);
        for (int a = 0; a < contents.length; a++) {
            for (int b = 0; b < contents.length; b++) {
                x.put(0, 0, contents[a][0], contents[a][1]);
                x.put(1, 0, contents[b][0], contents[b][1]);
                boolean bothOne = a >= 2 && a <= 4 && b >= 2 && b <= 4;
                Check.due(x, "unlike " + a + " " + b, x.unlike(0, 1), a == b || bothOne ? -1 : 0, 0);
            }
        }
        Check.row(x, 2, 4, 1);
        x.put(0, 0, 3, 1);
        Check.due(x, "a box and a number", x.unlike(0, 2), -1, 0);
        x.bin(3, 9, 1);
        x.put(3, 0, 8, 4);
        x.put(0, 0, 8, 4);
        Check.due(x, "words", x.unlike(0, 3), -1, 0);
        x.put(0, 0, 4, 4);
        Check.due(x, "a word and a number", x.unlike(0, 3), 0, 0);
    }

    private static void unlikeRefusals() {
        GuestCalls x = new GuestCalls();
        x.bin(0, 10, 0);
        x.bin(1, 4, 1);
        Check.due(x, "thing, nothing", x.unlike(0, 2), -2, 2);
        Check.due(x, "nothing, thing", x.unlike(2, 0), -2, 3);
        Check.due(x, "row, nothing", x.unlike(1, 2), -2, 3);
        Check.due(x, "row, thing", x.unlike(1, 0), -2, 2);
        Check.due(x, "thing, thing", x.unlike(0, 0), -2, 2);
        Check.due(x, "unlike(8)", x.unlike(8, 0), -2, 0);
        x.unlike(0, 0);
        Check.due(x, "unlike to -1", x.unlike(0, -1), -2, 0);
    }
}

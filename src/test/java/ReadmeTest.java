import java.nio.file.Files;
import java.nio.file.Path;
import java.util.regex.Matcher;
import java.util.regex.Pattern;

/** The examples of README.md stand here too, word by word, and answer what they say. */
public final class ReadmeTest {
    public static void main(String[] args) throws Exception {
        answers();
        blocks();
        Check.end("ReadmeTest");
    }

    static void lay(GuestCalls x, String text) {
        for (int at = 0; at < text.length(); at += 20) {
            int[] fours = new int[5];
            for (int i = 0; i < 20; i++) {
                int sign = at + i < text.length() ? text.charAt(at + i) : ' ';
                fours[i / 4] = fours[i / 4] << 8 | sign;
            }
            x.feed(fours[0], fours[1], fours[2], fours[3], fours[4]);
        }
    }

    private static void answers() {
        GuestCalls x = new GuestCalls();
        lay(x, "line 200; form point byte int 2 ptr; fill 0 5 0 0 0 7 0 0 0 8 0 0 0 44;");
        int fault = x.read();                       // 0; else the text changed nothing, and place() tells where it is wrong
        int small = x.layout(0, false, -1, 3);      // 16: the SIZE of FORM 0 on the small machine
        int wide = x.layout(0, true, -1, 3);        // 24: on the wide one

        x.bin(0, 5, 4);                             // BIN 0 holds a ROW of four LONGS
        int loaded = x.load(0, 0, 0);               // 4: FORM 0 at address 0, each CELL widened to a LONG
        long second = x.cell(0, 1, 5);              // 7
        long refused = x.cell(0, 1, 4);             // 0: a LONG does not widen to an INT
        int why = x.why();                          // 2: the REFUSAL of that call

        x.bin(1, 1, 4);                             // BYTES, which widen to all that FORM 0 has
        x.write(1, 3, 1, -1);                       // for its PTR, which must be 0 to LINE
        int over = x.store(0, 1, 80);               // NONE: it does not fit, and nothing is stored
        int still = x.why();                        // 6
        x.write(1, 3, 1, 100);
        int stored = x.store(0, 1, 80);             // 16
        int grown = x.turn(0, 0, 104, true);        // 24: FORM 0 at 0, laid at 104 as the wide machine has it

        x.sets(0, -9);
        x.hold(0);                                  // all as it is now, in SLOT 0
        int frame = x.frame();                      // 164: the REGISTERS as INTS, below LINE
        x.restore(0);                               // as if the frame had never been

        Check.due("read", fault, 0);
        Check.due("small SIZE", small, 16);
        Check.due("wide SIZE", wide, 24);
        Check.due("load", loaded, 4);
        Check.due("cell", second, 7);
        Check.due("cell as INT", refused, 0);
        Check.due("why", why, 2);
        Check.due("store of what is over", over, GuestCalls.NONE);
        Check.due("why", still, 6);
        Check.due("store", stored, 16);
        Check.due("the PTR stored", x.byteAt(92), 100);
        Check.due("turn", grown, 24);
        Check.due("the PTR", x.byteAt(120), 44);
        Check.due("frame", frame, 164);
        Check.due("FRAMES", x.count(3), 0);
        Check.due("byte of the frame", x.byteAt(164), 0);
    }

    private static void blocks() throws Exception {
        String test = plain(Files.readString(Path.of("src/test/java/ReadmeTest.java")));
        Matcher block = Pattern.compile("(?s)```java\\n(.*?)```").matcher(Files.readString(Path.of("README.md")));
        int found = 0;
        while (block.find()) {
            found++;
            Check.due("example " + found + " of README.md stands here", test.contains(plain(block.group(1))), true);
        }
        Check.due("examples", found, 2);
    }

    private static String plain(String text) {
        return text.replaceAll("(?m)^[ ]+", "");
    }
}

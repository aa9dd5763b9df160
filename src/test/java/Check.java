/** What the tests share: answers compared, texts fed, the end told. */
final class Check {
    private static int wrong = 0;
    private static int seen = 0;

    private Check() {
    }

    static void due(String call, long got, long want) {
        seen++;
        if (got != want) {
            wrong++;
            System.out.println(call + " answered " + got + ", due is " + want);
        }
    }

    static void due(String call, boolean got, boolean want) {
        due(call, got ? 1 : 0, want ? 1 : 0);
    }

    /** A number that a call answered, and why() behind it. */
    static void due(GuestCalls x, String call, long got, long want, int why) {
        due(call, got, want);
        due("why() behind " + call, x.why(), why);
    }

    static void due(GuestCalls x, String call, boolean got, boolean want, int why) {
        due(x, call, got ? 1 : 0, want ? 1 : 0, why);
    }

    /** Lays a text on the tape, by feeds of twenty bytes and a step back. */
    static void lay(GuestCalls x, String text) {
        for (int at = 0; at < text.length(); at += 20) {
            int[] fours = new int[5];
            for (int i = 0; i < 20; i++) {
                int sign = at + i < text.length() ? text.charAt(at + i) & 255 : 32;
                fours[i / 4] = fours[i / 4] << 8 | sign;
            }
            x.feed(fours[0], fours[1], fours[2], fours[3], fours[4]);
        }
        x.back((20 - text.length() % 20) % 20);
    }

    static GuestCalls told(String text) {
        GuestCalls x = new GuestCalls();
        lay(x, text);
        due("read() of " + text, x.read(), 0);
        return x;
    }

    static void poke(GuestCalls x, int address, int... bytes) {
        for (int i = 0; i < bytes.length; i++) {
            due("poke(" + (address + i) + ")", x.poke(address + i, bytes[i]), true);
        }
    }

    static void bytes(GuestCalls x, int address, int... bytes) {
        for (int i = 0; i < bytes.length; i++) {
            due("byteAt(" + (address + i) + ")", x.byteAt(address + i), bytes[i]);
        }
    }

    static void end(String test) {
        System.out.println(test + ": " + seen + " answers, " + wrong + " wrong");
        if (wrong != 0) {
            System.exit(1);
        }
    }
}

/** What all tests of the project share: texts put on the tape, answers compared, and the closing line. */
final class Check {
    static int wrong = 0;
    static int made = 0;

    private Check() {
    }

    static void due(String call, long got, long want) {
        made++;
        if (got != want) {
            wrong++;
            System.out.println(call + " answered " + got + ", due is " + want);
        }
    }

    static void due(String call, boolean got, boolean want) {
        due(call, got ? 1 : 0, want ? 1 : 0);
    }

    /** Puts a text on the tape; what is behind it in the last feed() is cut. */
    static void tape(WellPromises x, String text) {
        tape(x, text.getBytes(java.nio.charset.StandardCharsets.ISO_8859_1));
    }

    static void tape(WellPromises x, byte[] text) {
        int had = x.count(8);
        for (int i = 0; i < text.length; i += 20) {
            x.feed(four(text, i), four(text, i + 4), four(text, i + 8), four(text, i + 12), four(text, i + 16));
        }
        x.end(had + text.length);
    }

    private static int four(byte[] text, int at) {
        int number = 0;
        for (int i = at; i < at + 4; i++) {
            number = number << 8 | (i < text.length ? text[i] & 255 : 0);
        }
        return number;
    }

    static int house(WellPromises x, String text) {
        tape(x, text);
        return x.house();
    }

    static int daybook(WellPromises x, String text, int lives) {
        tape(x, text);
        return x.daybook(lives);
    }

    static int sentence(WellPromises x, String text) {
        tape(x, text);
        return x.sentence();
    }

    /** A new object with a HOUSE that must be without a FAULT. */
    static WellPromises with(String text) {
        WellPromises x = new WellPromises();
        int lines = house(x, text);
        if (lines < 0) {
            due("house " + text, lines, 0);
        }
        return x;
    }

    /** A HOUSE told to a new object: its answer and the kind of its FAULT. */
    static void houseFault(String text, int place, int kind) {
        WellPromises x = new WellPromises();
        due("house '" + text + "'", house(x, text), -1 - place);
        due("fault of '" + text + "'", x.fault(), kind);
    }

    static void daybookFault(WellPromises x, String text, int place, int kind) {
        due("daybook '" + text + "'", daybook(x, text, 0), -2 - place);
        due("fault of '" + text + "'", x.fault(), kind);
    }

    static void sentenceFault(WellPromises x, String text, int place, int kind) {
        due("sentence '" + text + "'", sentence(x, text), -1 - place);
        due("fault of '" + text + "'", x.fault(), kind);
    }

    static void done(String test) {
        System.out.println(test + ": " + made + " answers, " + wrong + " not as due");
        if (wrong != 0) {
            System.exit(1);
        }
    }
}

/** What all tests share: answers that are due, and texts laid on THE TAPE. */
final class Check {
    static final int BAD = -1, STATE = -2, FULL = -3, NONE = -4;
    private static int wrong = 0;
    private static int asked = 0;

    private Check() {
    }

    static void due(String call, long got, long want) {
        asked++;
        if (got != want) {
            wrong++;
            if (wrong <= 40) {
                System.out.println(call + " answered " + got + ", due is " + want);
            }
        }
    }

    /** Lays a text on THE TAPE, behind what is there, byte by byte. */
    static void lay(HouseTwins x, String text) {
        int had = x.count(5);
        for (int p = 0; p < text.length(); p += 8) {
            long v = 0;
            for (int q = p; q < p + 8; q++) {
                v = v << 8 | (q < text.length() ? text.charAt(q) & 255 : ' ');
            }
            x.feed(v);
        }
        x.end(had + text.length());
    }

    static int tell(HouseTwins x, String text) {
        lay(x, text);
        return x.text();
    }

    static HouseTwins told(String text) {
        HouseTwins x = new HouseTwins();
        due("text of <" + text + "> is taken", tell(x, text) < 0 ? 0 : 1, 1);
        return x;
    }

    static void dueFault(String text, int place, int fault) {
        HouseTwins x = new HouseTwins();
        due("text() of <" + text + ">", tell(x, text), -10 - place);
        due("fault() of <" + text + ">", x.fault(), fault);
    }

    static void dueLines(String text, int lines) {
        HouseTwins x = new HouseTwins();
        due("text() of <" + text + ">", tell(x, text), lines);
        due("fault() of <" + text + ">", x.fault(), 0);
    }

    static int house(int colour) {
        return 1 + 8 * colour;
    }

    static void finish(String name) {
        System.out.println(name + ": " + asked + " answers, " + wrong + " wrong");
        if (wrong != 0) {
            System.exit(1);
        }
    }
}

import java.util.List;

/** Promises 1 to 10 and their Terms at the edges: one method for each sentence that names some. */
public final class TextEdgesTest {
    private static final int MIN = Integer.MIN_VALUE, MAX = Integer.MAX_VALUE;
    // Each line, token by token: "a-b" a NUMBER within bounds, K a KIND, S a side, another one itself.
    private static final String[] LINES = {"lots 1-8 ;", "bend 0-6 ;", "pull 0-20 ;", "price 1-9 1-9 1-9 1-9 ;",
        "cost 0-1 0-20 0-20 0-20 0-20 0-20 ;", "taste 0-1 0-20 0-20 0-20 0-20 0-20 ;", "lack 0-1 K ;", "twin K L ;", "paint 0-0 1-1 ;",
        "right K ;", "thing 0-1 0-4 K 0-3 S ;", "thing 0-1 0-4 nothing ;", "work 0-23 0-1 0-4 K 0-3 S ;", "work 0-23 0-1 0-4 nothing ;"};
    private static final String[] KINDS = {"house", "garden", "shop", "tower", "shrine"};

    public static void main(String[] args) {
        newObject();
        feedUpTo400();
        endOfTheTape();
        tapeIsEmptyBehindText();
        tapeOf400Bytes();
        everyByte();
        everyByteBetweenTokens();
        numbersOfOneOrTwoFigures();
        namesAreAsLongAsMayBe();
        everyTokenMissing();
        everyTokenReplaced();
        everyNumberAtItsBounds();
        everyKindAndSide();
        secondTimes();
        twinsForTheSecondTime();
        worksUpToTwelve();
        monthsNoLessThanAhead();
        lotsThatThereAreNot();
        firstFaultMet();
        emptyTexts();
        textInPlaceOfAll();
        faultOfTheLatestText();
        rules();
        kinds();
        colours();
        mirrors();
        works();
        Check.finish("TextEdgesTest");
    }

    // ---- promise 1

    private static void newObject() {
        HouseTwins x = new HouseTwins();
        Check.due("five LOTS", x.thing(1, 4), 0);
        Check.due("no sixth", x.thing(1, 5), Check.BAD);
        Check.due("no WORKS", x.work(0, 0), Check.BAD);
        Check.due("no fate", x.fate(0), Check.BAD);
        Check.due("all even", x.odd(), 0);
        Check.due("never uneven", x.uneven(0), Check.NONE);
        Check.due("no WANTS", x.content(), 0);
        Check.due("nothing SEEN", x.forget(), 0);
        for (int k = 0; k < 2; k++) {
            Check.due("no IMAGE " + k, x.back(k), Check.STATE);
        }
        for (int k = 0; k < 4; k++) {
            for (int lane = 0; lane < 3; lane++) {
                Check.due("SHEET " + k + " of nothing", x.read(k, lane, 0, 1), 0);
                Check.due("NULL", x.torn(), 1);
            }
        }
        Check.due("an empty tape", x.end(0), 0);
        HouseTwins y = new HouseTwins();
        y.put(0, 0, 1);
        Check.due("each object has its own", new HouseTwins().thing(0, 0), 0);
    }

    // ---- promises 2, 3

    private static void feedUpTo400() {
        HouseTwins x = new HouseTwins();
        for (int n = 1; n <= 50; n++) {
            Check.due("feed " + n, x.feed(-1L), 8 * n);
        }
        for (int n = 0; n < 3; n++) {
            Check.due("feed on 400", x.feed(0L), Check.FULL);
        }
        for (int n = 399; n >= 393; n--) {
            x.end(n);
            Check.due("feed on " + n, x.feed(0L), Check.FULL);
            Check.due("as many bytes as ahead", x.count(5), n);
        }
        x.end(392);
        Check.due("feed on 392", x.feed(0L), 400);
        for (long v : new long[] {Long.MIN_VALUE, Long.MAX_VALUE, 0L, -1L}) {
            x.end(1);
            Check.due("feed(" + v + ")", x.feed(v), 9);
        }
    }

    private static void endOfTheTape() {
        HouseTwins x = new HouseTwins();
        for (int n : new int[] {1, -1, 400, MIN, MAX}) {
            Check.due("end(" + n + ") of an empty tape", x.end(n), Check.BAD);
        }
        Check.due("end(0) of an empty tape", x.end(0), 0);
        // "pull 7; pull 9; ": what was cut off does not come again.
        x.feed(0x70756c6c20373b20L);
        x.feed(0x70756c6c20393b20L);
        Check.due("end(17) of 16", x.end(17), Check.BAD);
        Check.due("end(16) of 16", x.end(16), 16);
        Check.due("end(8) of 16", x.end(8), 16);
        Check.due("end(9) of 8", x.end(9), Check.BAD);
        Check.due("end(16) of 8", x.end(16), Check.BAD);
        Check.due("end(8) of 8", x.end(8), 8);
        Check.due("text()", x.text(), 1);
        Check.due("rule(2)", x.rule(2), 7);
        // What is fed comes behind the bytes that are kept: "pull " and "11;     ".
        x.feed(0x70756c6c20373b20L);
        x.end(5);
        Check.due("feed on 5", x.feed(0x31313b2020202020L), 13);
        Check.due("text()", x.text(), 1);
        Check.due("rule(2)", x.rule(2), 11);
        x.feed(0x70756c6c20373b20L);
        Check.due("end(0) of 8", x.end(0), 8);
        Check.due("text() of an empty tape", x.text(), 0);
        Check.due("rule(2): as at first", x.rule(2), 1);
    }

    // ---- promise 4

    private static void tapeIsEmptyBehindText() {
        HouseTwins x = new HouseTwins();
        for (String text : new String[] {"pull 2;", "@", "hut", "lots 9;", "lots 1;lots 1;", "thing 0 7 nothing;"}) {
            Check.tell(x, text);
            Check.due("the tape behind <" + text + ">", x.count(5), 0);
            Check.due("end(1) behind <" + text + ">", x.end(1), Check.BAD);
            Check.due("end(0) behind <" + text + ">", x.end(0), 0);
        }
    }

    private static String blanks(int n) {
        return " ".repeat(n);
    }

    private static void tapeOf400Bytes() {
        Check.dueLines(blanks(400), 0);
        Check.dueLines(blanks(393) + "pull 7;", 1);
        Check.dueLines("pull 7;" + blanks(393), 1);
        Check.dueLines("pull" + blanks(394) + "7;", 1);
        Check.dueFault(blanks(399) + "x", 399, 2);
        Check.dueFault(blanks(399) + "@", 399, 1);
        Check.dueFault(blanks(399) + ";", 399, 2);
        Check.dueFault("pull" + blanks(396), 400, 2);
        Check.dueFault("pull 7" + blanks(394), 400, 2);
        Check.dueFault("pull" + blanks(394) + "21", 398, 3);
        Check.dueFault("pull" + blanks(393) + "100", 397, 1);
        Check.dueFault("thing 0 7 nothing;" + blanks(382), 400, 6);
        Check.dueFault("a".repeat(400), 0, 2);
        Check.dueFault("1".repeat(400), 0, 1);
        Check.dueFault(";".repeat(400), 0, 2);
        StringBuilder lines = new StringBuilder();
        for (int n = 0; n < 33; n++) {
            lines.append("lack 0 shop;");
        }
        Check.dueLines(lines.append("    ").toString(), 33);
        Check.dueFault("right " + "shop".repeat(98) + "  ", 6, 2);
    }

    private static void everyByte() {
        for (int sign = 0; sign < 256; sign++) {
            String text = String.valueOf((char) sign);
            boolean token = isName(sign) || isFigure(sign) || sign == ';';
            if (sign == ' ') {
                Check.dueLines(text, 0);
            } else {
                Check.dueFault(text, 0, token ? 2 : 1);
            }
        }
    }

    private static boolean isName(int sign) {
        return "abcdefghijklmnopqrstuvwxyz".indexOf(sign) >= 0;
    }

    private static boolean isFigure(int sign) {
        return "0123456789".indexOf(sign) >= 0;
    }

    private static void everyByteBetweenTokens() {
        for (int sign = 0; sign < 256; sign++) {
            String between = "pull" + (char) sign + "7;";
            String behind = "pull 1" + (char) sign + ";";
            if (sign == ' ') {
                Check.dueLines(between, 1);
                Check.dueLines(behind, 1);
            } else if (isName(sign)) {
                Check.dueFault(between, 0, 2);
                Check.dueFault(behind, 6, 2);
            } else if (sign == '0' || sign == '1') {
                Check.dueLines(between, 1);
                Check.dueLines(behind, 1);
            } else if (isFigure(sign)) {
                Check.dueFault(between, 4, 3);
                Check.dueLines(behind, 1);
            } else if (sign == ';') {
                Check.dueFault(between, 4, 2);
                Check.dueFault(behind, 7, 2);
            } else {
                Check.dueFault(between, 4, 1);
                Check.dueFault(behind, 6, 1);
            }
        }
    }

    private static void numbersOfOneOrTwoFigures() {
        for (int n = 0; n <= 99; n++) {
            String two = (n < 10 ? "0" : "") + n;
            for (String number : new String[] {two, String.valueOf(n)}) {
                if (n <= 20) {
                    HouseTwins x = Check.told("pull " + number + ";");
                    Check.due("pull of " + number, x.rule(2), n);
                } else {
                    Check.dueFault("pull " + number + ";", 5, 3);
                }
            }
        }
        for (String number : new String[] {"000", "001", "007", "100", "999", "0000000000", "4294967297", "99999999999999999999"}) {
            Check.dueFault("pull " + number + ";", 5, 1);
            Check.dueFault("  " + number, 2, 1);
            // As long as may be: no NUMBER is cut into two.
            Check.dueFault("price 1 1 1 " + number + ";", 12, 1);
        }
    }

    private static void namesAreAsLongAsMayBe() {
        for (String name : new String[] {"lot", "lotss", "lotsbend", "xlots", "l", "s", "house", "nothing", "left", "text", "what"}) {
            Check.dueFault(name + " 4;", 0, 2);
        }
        for (String name : new String[] {"hous", "houses", "housegarden", "h", "left", "right", "lots"}) {
            Check.dueFault("right " + name + ";", 6, 2);
            Check.dueFault("thing 0 0 " + name + " 0 left;", 10, 2);
        }
        for (String name : new String[] {"lef", "leftt", "rightleft", "house", "nothing", "l"}) {
            Check.dueFault("thing 0 0 shop 0 " + name + ";", 17, 2);
        }
        Check.dueFault("right nothing;", 6, 2);
        Check.dueFault("thing 0 0 nothings;", 10, 2);
        Check.dueFault("thing 0 0 nothin;", 10, 2);
        // One ; is a TOKEN of its own.
        Check.dueLines("right house;right shop;", 2);
        Check.dueFault("right house;;", 12, 2);
        Check.dueFault(";right house;", 0, 2);
    }

    private static String fill(String slot) {
        switch (slot) {
            case "K":
                return "house";
            case "L":
                return "garden";
            case "S":
                return "left";
            default:
                return isFigure(slot.charAt(0)) ? slot.substring(0, slot.indexOf('-')) : slot;
        }
    }

    /** A line up to slot p, each token and a blank. */
    private static String ahead(String[] slots, int p) {
        StringBuilder s = new StringBuilder();
        for (int q = 0; q < p; q++) {
            s.append(fill(slots[q])).append(' ');
        }
        return s.toString();
    }

    private static String behind(String[] slots, int p) {
        StringBuilder s = new StringBuilder();
        for (int q = p + 1; q < slots.length; q++) {
            s.append(' ').append(fill(slots[q]));
        }
        return s.toString();
    }

    /** The end where a TOKEN is wanted: FAULT 2 at the length, blanks and all. */
    private static void everyTokenMissing() {
        for (String line : LINES) {
            String[] slots = line.split(" ");
            for (int p = 1; p < slots.length; p++) {
                String text = ahead(slots, p);
                Check.dueFault(text, text.length(), 2);
                Check.dueFault(text.trim(), text.length() - 1, 2);
                Check.dueFault("right tower; " + text, 13 + text.length(), 2);
                String without = ahead(slots, p) + behind(slots, p).trim();
                // Where the next TOKEN may stand in its place, the fault comes later.
                if (p + 1 < slots.length && !alike(slots[p], slots[p + 1])) {
                    Check.dueFault(without, text.length(), 2);
                }
            }
            Check.dueLines(ahead(slots, slots.length), 1);
        }
    }

    private static boolean alike(String slot, String next) {
        return isFigure(slot.charAt(0)) && isFigure(next.charAt(0)) || slot.equals("K") && next.equals("L");
    }

    private static void everyTokenReplaced() {
        for (String line : LINES) {
            String[] slots = line.split(" ");
            for (int p = 0; p < slots.length; p++) {
                String text = ahead(slots, p);
                String rest = behind(slots, p);
                for (String no : new String[] {"@", "100", "-1", "House", ":", "\n", "\u00ff"}) {
                    Check.dueFault(text + no + rest, text.length(), 1);
                }
                Check.dueFault(text + "hut" + rest, text.length(), 2);
                Check.dueFault(text + "what" + rest, text.length(), 2);
                if (!slots[p].equals(";")) {
                    Check.dueFault(text + ";" + rest, text.length(), 2);
                }
                if (!isFigure(slots[p].charAt(0))) {
                    Check.dueFault(text + "0" + rest, text.length(), 2);
                    Check.dueFault(text + "99" + rest, text.length(), 2);
                } else {
                    Check.dueFault(text + "house" + rest, text.length(), 2);
                    Check.dueFault(text + "left" + rest, text.length(), 2);
                    Check.dueFault(text + "nothing" + rest, text.length(), 2);
                }
                if (!slots[p].equals("S")) {
                    Check.dueFault(text + "left" + rest, text.length(), 2);
                }
            }
        }
    }

    private static void everyNumberAtItsBounds() {
        for (String line : LINES) {
            String[] slots = line.split(" ");
            for (int p = 1; p < slots.length; p++) {
                int dash = slots[p].indexOf('-');
                if (dash < 0 || line.startsWith("paint")) {
                    continue;
                }
                // A LOT may be 0 to 7 as it is read: here there are eight.
                String first = slots[p].equals("0-4") ? "lots 8;" : "";
                int least = Integer.parseInt(slots[p].substring(0, dash));
                int most = slots[p].equals("0-4") ? 7 : Integer.parseInt(slots[p].substring(dash + 1));
                for (int n = 0; n <= 99; n++) {
                    String text = first + ahead(slots, p) + n + behind(slots, p);
                    if (n >= least && n <= most) {
                        Check.dueLines(text, first.isEmpty() ? 1 : 2);
                    } else {
                        Check.dueFault(text, first.length() + ahead(slots, p).length(), 3);
                    }
                }
            }
        }
        for (int n = 0; n <= 99; n++) {
            if (n <= 3) {
                Check.dueLines("paint " + n + " " + (3 - n) + ";", 1);
            } else {
                Check.dueFault("paint " + n + " 0;", 6, 3);
                Check.dueFault("paint 0 " + n + ";", 8, 3);
            }
        }
    }

    private static void everyKindAndSide() {
        for (int k = 1; k <= 5; k++) {
            for (int c = 0; c <= 3; c++) {
                for (int side = 0; side < 2; side++) {
                    String what = KINDS[k - 1] + " " + c + (side == 0 ? " left" : " right");
                    HouseTwins x = Check.told("thing 1 4 " + what + ";work 23 1 4 " + what + ";");
                    Check.due("thing of " + what, x.thing(1, 4), k + 8 * c + 32 * side);
                    Check.due("work of " + what, x.work(0, 3), k + 8 * c + 32 * side);
                }
            }
            for (int b = 0; b < 2; b++) {
                HouseTwins x = Check.told("right " + KINDS[k - 1] + ";lack " + b + " " + KINDS[k - 1] + ";");
                for (int other = 0; other <= 5; other++) {
                    Check.due("right", x.kind(other, 1), other == k ? 1 : 0);
                    Check.due("lack", x.kind(other, 30 + b), other == k ? 1 : 0);
                    Check.due("lack of the other", x.kind(other, 31 - b), 0);
                }
            }
        }
    }

    private static void secondTimes() {
        String[] once = {"lots 5", "bend 3", "pull 1", "price 1 1 1 1"};
        for (String line : once) {
            String name = line.substring(0, line.indexOf(' '));
            Check.dueFault(line + ";" + line + ";", line.length() + 1, 4);
            Check.dueFault(line + ";right shop;" + name, line.length() + 12, 4);
            for (String other : once) {
                if (!other.equals(line)) {
                    Check.dueLines(line + ";" + other + ";", 2);
                }
            }
        }
        for (String name : new String[] {"cost", "taste"}) {
            for (int b = 0; b < 2; b++) {
                String line = name + " " + b + " 1 1 1 1 1;";
                String other = name + " " + (1 - b) + " 1 1 1 1 1;";
                Check.dueFault(line + line, line.length() + name.length() + 1, 4);
                Check.dueFault(line + other + line, 2 * line.length() + name.length() + 1, 4);
                Check.dueFault(line + name + " " + b, line.length() + name.length() + 1, 4);
                Check.dueLines(line + other, 2);
            }
        }
        for (int b = 0; b < 2; b++) {
            for (int i = 0; i < 8; i++) {
                String line = "thing " + b + " " + i + " nothing;";
                Check.dueFault("lots 8;" + line + line, 7 + line.length() + 8, 4);
                Check.dueFault("lots 8;" + line + "thing " + b + " " + i, 7 + line.length() + 8, 4);
                Check.dueLines("lots 8;" + line + "thing " + (1 - b) + " " + i + " nothing;thing " + b + " " + (7 - i) + " nothing;", 4);
            }
        }
        // What may be told again and again.
        Check.dueLines("right shop;right shop;lack 0 shop;lack 0 shop;work 0 0 0 nothing;work 0 0 0 nothing;", 6);
    }

    private static void twinsForTheSecondTime() {
        for (int a = 0; a < 5; a++) {
            String one = KINDS[a];
            Check.dueFault("twin " + one + " " + one + ";", 6 + one.length(), 4);
            for (int c = 0; c < 5; c++) {
                if (c == a) {
                    continue;
                }
                String line = "twin " + one + " " + KINDS[c] + ";";
                String free = KINDS[a != 0 && c != 0 ? 0 : a != 1 && c != 1 ? 1 : 2];
                HouseTwins x = Check.told(line);
                Check.due("twin of the first", x.kind(a + 1, 0), c + 1);
                Check.due("twin of the second", x.kind(c + 1, 0), a + 1);
                Check.dueFault(line + "twin " + one, line.length() + 5, 4);
                Check.dueFault(line + "twin " + KINDS[c], line.length() + 5, 4);
                Check.dueFault(line + "twin " + free + " " + one, line.length() + 6 + free.length(), 4);
                Check.dueFault(line + "twin " + free + " " + KINDS[c], line.length() + 6 + free.length(), 4);
            }
        }
        for (int a = 0; a < 4; a++) {
            Check.dueFault("paint " + a + " " + a + ";", 8, 4);
            for (int c = 0; c < 4; c++) {
                if (c == a) {
                    continue;
                }
                int free = a != 0 && c != 0 ? 0 : a != 1 && c != 1 ? 1 : 2;
                String line = "paint " + a + " " + c + ";";
                HouseTwins x = Check.told(line);
                Check.due("twin of the first", x.colour(a), c);
                Check.due("twin of the second", x.colour(c), a);
                Check.due("a twin of its own", x.colour(free), free);
                Check.dueFault(line + "paint " + a, 16, 4);
                Check.dueFault(line + "paint " + c, 16, 4);
                Check.dueFault(line + "paint " + free + " " + a, 18, 4);
                Check.dueFault(line + "paint " + free + " " + c, 18, 4);
            }
        }
    }

    private static void worksUpToTwelve() {
        StringBuilder s = new StringBuilder();
        for (int n = 1; n <= 12; n++) {
            s.append("work ").append(n + 11).append(" 1 4 nothing;");
            HouseTwins x = Check.told(s.toString());
            Check.due("works", x.rule(3), n);
            Check.due("the last one's month", x.work(n - 1, 0), n + 11);
            Check.due("no more", x.work(n, 0), Check.BAD);
        }
        int length = s.length();
        // Of the 13th its NAME, whatever comes behind it.
        for (String more : new String[] {"", " 23 1 4 nothing;", " 24", " 100", "@", ";", " 0"}) {
            Check.dueFault(s + "work" + more, length, 5);
            Check.dueFault(s + " right shop; work" + more, length + 13, 5);
        }
        // FAULT 6 comes behind all.
        Check.dueFault("lots 4;" + s + "work", length + 7, 5);
        Check.dueFault("lots 4;" + s, length + 7, 6);
    }

    private static void monthsNoLessThanAhead() {
        for (int m = 0; m <= 23; m++) {
            String line = "work " + m + " 0 0 nothing;";
            Check.dueLines(line + line, 2);
            Check.dueLines(line + "work 23 0 0 nothing;", 2);
            if (m > 0) {
                Check.dueFault(line + "work " + (m - 1) + " 0 0 nothing;", line.length() + 5, 3);
                Check.dueFault(line + "work 0 0 0 nothing;", line.length() + 5, 3);
            }
        }
        Check.dueFault("work 23 0 0 nothing;work 24 0 0 nothing;", 25, 3);
    }

    private static void lotsThatThereAreNot() {
        for (int lots = 1; lots <= 8; lots++) {
            for (int i = 0; i < 8; i++) {
                for (int b = 0; b < 2; b++) {
                    String at = " " + b + " " + i + " nothing;";
                    dueLot("thing" + at, "lots " + lots + ";", i < lots);
                    dueLot("work 0" + at, "lots " + lots + ";", i < lots);
                    if (lots == 5) {
                        dueLot("thing" + at, "", i < 5);
                        dueLot("work 0" + at, "", i < 5);
                    }
                }
            }
        }
    }

    private static void dueLot(String line, String lots, boolean is) {
        int lines = lots.isEmpty() ? 1 : 2;
        for (String text : new String[] {lots + line, line + lots, "  " + line + lots + "   "}) {
            if (is) {
                Check.dueLines(text, lines);
            } else {
                Check.dueFault(text, text.length(), 6);
            }
        }
    }

    private static void firstFaultMet() {
        // A TOKEN is read when the one before has been taken.
        Check.dueFault("hut 100", 0, 2);
        Check.dueFault("hut@", 0, 2);
        Check.dueFault("pull 21@", 5, 3);
        Check.dueFault("pull 20@", 7, 1);
        Check.dueFault("pull 20 100", 8, 1);
        Check.dueFault("pull 1;pull@", 7, 4);
        Check.dueFault("pull 1;pull 21;", 7, 4);
        Check.dueFault("cost 2@", 5, 3);
        Check.dueFault("cost 0 1 1 1 1 1;cost 0@", 22, 4);
        Check.dueFault("cost 0 1 1 1 1 1;cost 0 21 1 1 1 1;", 22, 4);
        Check.dueFault("thing 0 0 nothing;thing 0 0@", 26, 4);
        Check.dueFault("thing 0 0 nothing;thing 0 8", 26, 3);
        Check.dueFault("thing 0 0 nothing;thing 2 0", 24, 3);
        Check.dueFault("twin house house@", 11, 4);
        Check.dueFault("twin house shop;twin house hut;", 21, 4);
        Check.dueFault("paint 0 1;paint 0 9;", 16, 4);
        Check.dueFault("paint 0 1;paint 9 0;", 16, 3);
        Check.dueFault("thing 0 7 nothing;thing 0 7 nothing;", 26, 4);
        Check.dueFault("thing 0 7 nothing;hut", 18, 2);
        Check.dueFault("thing 0 7 nothing;\t", 18, 1);
        Check.dueFault("thing 0 7 nothing;work", 22, 2);
        Check.dueFault("lots 9;lots 9;", 5, 3);
    }

    private static void emptyTexts() {
        for (int n = 0; n <= 17; n++) {
            HouseTwins x = new HouseTwins();
            x.put(0, 0, 1);
            x.plot(0, 0, 0, 1);
            x.want(0, 1);
            x.saw(0, 0, 0, true);
            x.keep(0);
            x.sheet(0, 0, 3);
            Check.due("text() of " + n + " blanks", Check.tell(x, blanks(n)), 0);
            int[] counts = {0, 5, 0, 0, 0, 0, 3};
            for (int what = 0; what < counts.length; what++) {
                Check.due("count(" + what + ")", x.count(what), counts[what]);
            }
            Check.due("no WORKS", x.rule(3), 0);
        }
    }

    /** A text that is taken leaves nothing of what there was: the object is as a new one that was told the same. */
    private static void textInPlaceOfAll() {
        StringBuilder things = new StringBuilder("lots 8;");
        for (int i = 0; i < 8; i++) {
            things.append("thing 0 ").append(i).append(" shop 1 left;thing 1 ").append(i).append(" shop 1 left;");
        }
        StringBuilder works = new StringBuilder("lots 8;");
        for (int w = 0; w < 12; w++) {
            works.append("work 23 1 7 tower 3 right;");
        }
        String law = "bend 0;pull 20;price 9 9 9 9;cost 0 9 9 9 9 9;cost 1 8 8 8 8 8;taste 0 7 7 7 7 7;taste 1 6 6 6 6 6;right house;right garden;"
                + "right shop;right tower;right shrine;twin house shop;twin tower shrine;paint 0 1;paint 2 3;lack 0 house;lack 0 shrine;lack 1 shop;";
        String[] befores = {things.toString(), works.toString(), law};
        for (String before : befores) {
            for (String text : new String[] {"", "pull 3;", "thing 1 4 house 0 left;", "lack 1 house;right tower;", "twin house garden;paint 0 3;", "work 5 0 0 nothing;"}) {
                HouseTwins x = Check.told(before);
                x.want(0, 1);
                x.saw(0, 0, 0, true);
                x.keep(0);
                x.keep(1);
                Check.due("lines of <" + text + ">", Check.tell(x, text), text.split(";", -1).length - 1);
                List<String> got = Probe.everything(x);
                List<String> want = Probe.everything(Check.told(text));
                Check.due("as many answers", got.size(), want.size());
                for (int n = 0; n < Math.min(got.size(), want.size()); n++) {
                    Check.due("<" + got.get(n) + "> for <" + want.get(n) + "> behind <" + text + ">", got.get(n).equals(want.get(n)) ? 0 : 1, 0);
                }
            }
        }
    }

    // ---- promise 5

    private static void faultOfTheLatestText() {
        HouseTwins x = new HouseTwins();
        String[] texts = {"@", "hut", "lots 0;", "lots 1;lots 1;", "", "work 0 0 5 nothing;", "pull 1;", "999"};
        int[] faults = {1, 2, 3, 4, 0, 6, 0, 1};
        for (int n = 0; n < texts.length; n++) {
            Check.tell(x, texts[n]);
            Check.due("fault() of <" + texts[n] + ">", x.fault(), faults[n]);
            Check.due("fault() asked again", x.fault(), faults[n]);
        }
        x.feed(0L);
        x.end(9);
        x.put(2, 0, 0);
        Check.due("no other call has a fault of text()", x.fault(), 1);
    }

    // ---- promises 6 to 10

    private static boolean isOf(int n, int... all) {
        for (int one : all) {
            if (one == n) {
                return true;
            }
        }
        return false;
    }

    private static void rules() {
        HouseTwins least = Check.told("lots 1;bend 0;pull 0;price 1 1 1 1;");
        HouseTwins most = Check.told("lots 8;bend 6;pull 20;price 9 9 9 9;");
        int[] leasts = {1, 0, 0, 0};
        int[] mosts = {8, 6, 20, 0};
        for (int what = 0; what < 4; what++) {
            Check.due("the least rule(" + what + ")", least.rule(what), leasts[what]);
            Check.due("the most rule(" + what + ")", most.rule(what), mosts[what]);
            Check.due("the least price", least.rule(10 + what), 1);
            Check.due("the most price", most.rule(10 + what), 9);
        }
        HouseTwins x = new HouseTwins();
        for (int what = -20; what <= 60; what++) {
            if (!isOf(what, 0, 1, 2, 3, 10, 11, 12, 13)) {
                Check.due("rule(" + what + ")", x.rule(what), Check.BAD);
            }
        }
        for (int what : new int[] {MIN, MIN + 10, MIN + 13, MAX, MAX - 3}) {
            Check.due("rule(" + what + ")", x.rule(what), Check.BAD);
        }
        for (int n = 1; n <= 12; n++) {
            x.plot(n, 0, 0, 0);
            Check.due("rule(3)", x.rule(3), n);
        }
    }

    private static void kinds() {
        HouseTwins least = Check.told("cost 0 0 0 0 0 0;cost 1 0 0 0 0 0;taste 0 0 0 0 0 0;taste 1 0 0 0 0 0;pull 0;");
        HouseTwins most = Check.told("cost 0 20 20 20 20 20;cost 1 20 20 20 20 20;taste 0 20 20 20 20 20;taste 1 20 20 20 20 20;pull 20;");
        for (int k = 0; k <= 5; k++) {
            for (int b = 0; b < 2; b++) {
                Check.due("the least cost", least.kind(k, 10 + b), 0);
                Check.due("the most cost, of nothing the pull", most.kind(k, 10 + b), 20);
                Check.due("the least taste", least.kind(k, 20 + b), 0);
                Check.due("the most taste, of nothing 0", most.kind(k, 20 + b), k == 0 ? 0 : 20);
            }
        }
        int[] twins = {0, 5, 3, 2, 4, 1};
        for (int k = 0; k <= 5; k++) {
            HouseTwins x = Check.told("lack 0 house;lack 0 garden;lack 0 shop;lack 0 tower;lack 0 shrine;right house;right garden;"
                    + "right shop;right tower;right shrine;twin house shrine;twin garden shop;");
            Check.due("its twin", x.kind(k, 0), twins[k]);
            Check.due("all but nothing are right", x.kind(k, 1), k == 0 ? 0 : 1);
            Check.due("all but nothing are lacked", x.kind(k, 30), k == 0 ? 0 : 1);
            Check.due("none is lacked", x.kind(k, 31), 0);
            for (int what = -40; what <= 60; what++) {
                if (!isOf(what, 0, 1, 10, 11, 20, 21, 30, 31)) {
                    Check.due("kind(" + k + ", " + what + ")", x.kind(k, what), Check.BAD);
                }
            }
            Check.due("kind(" + k + ", MIN)", x.kind(k, MIN), Check.BAD);
            Check.due("kind(" + k + ", MAX)", x.kind(k, MAX), Check.BAD);
        }
        for (int k : new int[] {-1, 6, 7, 8, MIN, MAX}) {
            for (int what : new int[] {0, 1, 10, 11, 20, 21, 30, 31, -1}) {
                Check.due("kind(" + k + ", " + what + ")", least.kind(k, what), Check.BAD);
            }
        }
    }

    private static void colours() {
        HouseTwins x = Check.told("paint 3 0;");
        int[] twins = {3, 1, 2, 0};
        for (int c = 0; c <= 3; c++) {
            Check.due("colour(" + c + ")", x.colour(c), twins[c]);
        }
        for (int c : new int[] {-1, 4, 5, 8, MIN, MAX}) {
            Check.due("colour(" + c + ")", x.colour(c), Check.BAD);
        }
    }

    private static void mirrors() {
        String[] laws = {"", "right shrine;", "twin house shrine;right house;", "twin house shrine;right shrine;", "paint 0 3;paint 1 2;"};
        int[][] twins = {{0, 1, 2, 3, 4, 5}, {0, 1, 2, 3, 4, 5}, {0, 5, 2, 3, 4, 1}, {0, 5, 2, 3, 4, 1}, {0, 1, 2, 3, 4, 5}};
        int[][] stays = {{}, {5}, {1, 5}, {1, 5}, {}};
        for (int n = 0; n < laws.length; n++) {
            HouseTwins x = Check.told(laws[n]);
            for (int t = -70; t <= 140; t++) {
                int k = t & 7;
                int due = Check.BAD;
                if (t == 0) {
                    due = 0;
                } else if (t > 0 && t < 64 && k >= 1 && k <= 5) {
                    int c = t / 8 % 4;
                    int door = t / 32;
                    due = twins[n][k] + 8 * (n == 4 ? 3 - c : c) + 32 * (isOf(k, stays[n]) ? door : 1 - door);
                }
                Check.due("mirror(" + t + ") by <" + laws[n] + ">", x.mirror(t), due);
            }
            for (int t : new int[] {MIN, MIN + 1, MIN + 33, MAX, MAX - 6, 64 + 1, 256 + 1, 65536 + 1}) {
                Check.due("mirror(" + t + ")", x.mirror(t), Check.BAD);
            }
        }
    }

    private static void works() {
        HouseTwins x = new HouseTwins();
        Check.due("work(0, 0) of none", x.work(0, 0), Check.BAD);
        x.plot(0, 0, 0, 0);
        x.plot(23, 1, 4, 61);
        int[][] dues = {{0, 0, 0, 0}, {23, 1, 4, 61}};
        for (int w : new int[] {0, 1, -1, 2, 11, 12, MIN, MAX}) {
            for (int what : new int[] {0, 1, 2, 3, -1, 4, MIN, MAX}) {
                boolean is = w >= 0 && w < 2 && what >= 0 && what < 4;
                Check.due("work(" + w + ", " + what + ")", x.work(w, what), is ? dues[w][what] : Check.BAD);
            }
        }
        x.go();
        Check.due("told no more", x.work(0, 0), Check.BAD);
    }
}

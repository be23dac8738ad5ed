/** Promises 35 to 38: what was seen, and histories. */
public final class PastTest {
    public static void main(String[] args) {
        seen();
        counts();
        oneBeginner();
        months();
        byABend();
        wrongNumbers();
        Check.finish("PastTest");
    }

    private static void seen() {
        HouseTwins x = Check.told("lots 2;");
        Check.due("forget() of nothing", x.forget(), 0);
        int[][] bad = {{-1, 0, 0}, {2, 0, 0}, {0, -1, 0}, {0, 2, 0}, {0, 0, -1}, {0, 0, 24}, {0, 0, Integer.MAX_VALUE}};
        for (int[] n : bad) {
            Check.due("saw that is bad", x.saw(n[0], n[1], n[2], true), Check.BAD);
        }
        for (int n = 1; n <= 12; n++) {
            Check.due("saw " + n, x.saw(n & 1, n & 1, 23, n > 6), n);
        }
        Check.due("saw 13", x.saw(0, 0, 0, true), Check.FULL);
        Check.due("saw 13 that is bad", x.saw(0, 0, 24, true), Check.BAD);
        Check.due("count(3)", x.count(3), 12);
        Check.due("forget()", x.forget(), 12);
        Check.due("count(3)", x.count(3), 0);
        Check.due("saw anew", x.saw(0, 0, 0, true), 1);
    }

    private static void counts() {
        HouseTwins x = Check.told("lots 8;");
        Check.due("histories without things", x.histories(23), 1);
        long all = 1;
        for (int i = 0; i < 8; i++) {
            x.put(0, i, 1);
            Check.due("a pair that is odd has none", x.histories(23), all);
            x.put(1, i, 33);
            all *= 94;
            Check.due("histories of " + (i + 1) + " pairs", x.histories(23), all);
        }
        Check.due("histories(0)", x.histories(0), 256);
        Check.due("histories(1)", x.histories(1), 1679616);
        x.saw(1, 3, 23, false);
        Check.due("none fits", x.histories(23), 0);
        x.forget();
        x.put(1, 3, 0);
        x.saw(1, 3, 23, false);
        x.saw(0, 3, 0, false);
        Check.due("what is seen of a pair without histories", x.histories(0), 128);
    }

    private static void oneBeginner() {
        HouseTwins x = Check.told("thing 0 1 house 0 left;thing 1 1 house 0 right;");
        Check.due("began(1, 9, 0)", x.began(1, 9, 0), Check.NONE);
        Check.due("began(1, 9, 1)", x.began(1, 9, 1), 0);
        Check.due("began(1, 9, 2)", x.began(1, 9, 2), 9);
        x.saw(1, 1, 4, true);
        x.saw(0, 1, 4, false);
        Check.due("histories(9): BANK 1 in 4, BANK 0 in 5", x.histories(9), 1);
        Check.due("began(1, 9, 0)", x.began(1, 9, 0), 1);
        Check.due("began(1, 9, 1)", x.began(1, 9, 1), 4);
        Check.due("began(1, 9, 2)", x.began(1, 9, 2), 4);
        Check.due("began(1, 4, 0): BANK 0 comes too late", x.began(1, 4, 0), Check.NONE);
        Check.due("began(1, 4, 1)", x.began(1, 4, 1), Check.NONE);
        Check.due("began(1, 4, 2)", x.began(1, 4, 2), Check.NONE);
        Check.due("histories(4)", x.histories(4), 0);
        x.forget();
        x.saw(0, 1, 0, true);
        x.saw(1, 1, 0, false);
        Check.due("began(1, 1, 0)", x.began(1, 1, 0), 0);
        Check.due("began(0, 1, 0): without things", x.began(0, 1, 0), Check.STATE);
        x.put(1, 1, 1);
        Check.due("began(1, 1, 0): odd", x.began(1, 1, 0), Check.STATE);
    }

    private static void months() {
        HouseTwins x = Check.told("thing 0 0 house 0 left;thing 1 0 house 0 right;");
        x.saw(0, 0, 6, true);
        x.saw(1, 0, 2, false);
        // BANK 0 by 6, BANK 1 from 3 on.
        Check.due("began(0, 23, 1)", x.began(0, 23, 1), 2);
        Check.due("began(0, 23, 2)", x.began(0, 23, 2), 6);
        Check.due("began(0, 4, 2)", x.began(0, 4, 2), 4);
        // BANK 0 first: both in 3 to 6, or in 2 to 6 and the next one; BANK 1 first: both in 3 to 6, or in 3 to 5 and the next.
        Check.due("histories(23)", x.histories(23), 4 + 5 + 4 + 3);
        x.saw(0, 0, 6, true);
        Check.due("seen twice", x.histories(23), 16);
        x.saw(0, 0, 6, false);
        Check.due("seen both ways", x.histories(23), 0);
        x.forget();
        x.saw(0, 0, 20, true);
        Check.due("seen behind m", x.histories(5), 2 * 11);
        x.saw(0, 0, 21, false);
        Check.due("seen behind m: it would have stood", x.histories(5), 0);
    }

    private static void byABend() {
        HouseTwins x = Check.told("bend 5;thing 0 0 house 0 left;thing 1 2 house 0 right;thing 0 4 house 0 left;");
        x.saw(1, 2, 3, true);
        x.saw(0, 2, 0, true);
        x.saw(1, 0, 0, true);
        x.saw(0, 0, 3, false);
        Check.due("histories(9)", x.histories(9), 1);
        Check.due("began(0, 9, 0)", x.began(0, 9, 0), 1);
        Check.due("began(0, 9, 1)", x.began(0, 9, 1), 3);
        Check.due("began(4, 9, 0): no match", x.began(4, 9, 0), Check.STATE);
    }

    private static void wrongNumbers() {
        HouseTwins x = Check.told("thing 0 0 house 0 left;thing 1 0 house 0 right;");
        for (int n : new int[] {-1, 24, Integer.MIN_VALUE, Integer.MAX_VALUE}) {
            Check.due("histories(" + n + ")", x.histories(n), Check.BAD);
            Check.due("began(0, " + n + ", 0)", x.began(0, n, 0), Check.BAD);
            Check.due("began(" + n + ", 0, 0)", x.began(n, 0, 0), Check.BAD);
            Check.due("began(0, 0, " + n + ")", x.began(0, 0, n), Check.BAD);
        }
        Check.due("began(5, 0, 0)", x.began(5, 0, 0), Check.BAD);
        Check.due("began(0, 0, 3)", x.began(0, 0, 3), Check.BAD);
        Check.due("began(1, 0, 3): BAD comes first", x.began(1, 0, 3), Check.BAD);
    }
}

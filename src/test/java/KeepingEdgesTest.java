/** Promises 35 to 45 and their Terms at the edges: one method for each sentence that names some. */
public final class KeepingEdgesTest {
    private static final int MIN = Integer.MIN_VALUE, MAX = Integer.MAX_VALUE;
    private static final int[][] NO_LOTS = {{-1, 0}, {2, 0}, {MIN, 0}, {MAX, 0}, {0, -1}, {1, -1}, {0, 5}, {1, 5}, {0, 8}, {1, 8}, {0, MIN}, {1, MAX}};

    public static void main(String[] args) {
        sawUpToTwelve();
        sawMonths();
        forgets();
        historiesUpToM();
        historiesOfNone();
        historiesOfAll();
        historiesOfWhatWasSeen();
        historiesNotOfAPair();
        beganMonths();
        beganByWhom();
        beganByNone();
        beganOfNoHistory();
        imagesOfNone();
        imagesOfAll();
        imagesBehindText();
        sheetsUpTo40();
        sheetsBelow0();
        newRowsOf0();
        layOnCells();
        layOfNothing();
        lowestBits();
        readUpTo13();
        readOfNone();
        readTorn();
        readFromAnywhere();
        readAsAnotherLane();
        readOfNothing();
        readOfBadThings();
        tornOfTheLatest();
        counts();
        fiveHundredAndTwelveCalls();
        Check.finish("KeepingEdgesTest");
    }

    private static HouseTwins onePair() {
        return Check.told("thing 0 0 house 0 left;thing 1 0 house 0 right;");
    }

    // ---- promises 35, 36

    private static void sawUpToTwelve() {
        HouseTwins x = new HouseTwins();
        for (int n = 1; n <= 12; n++) {
            // The same may be SEEN again: each counts.
            Check.due("saw " + n, x.saw(1, 4, 23, n > 2), n);
        }
        Check.due("saw 13", x.saw(0, 0, 0, true), Check.FULL);
        Check.due("saw 13 again", x.saw(1, 4, 23, false), Check.FULL);
        Check.due("BAD comes first", x.saw(0, 5, 0, true), Check.BAD);
        Check.due("BAD comes first", x.saw(0, 0, 24, true), Check.BAD);
        Check.due("twelve", x.count(3), 12);
        x.forget();
        Check.due("room again", x.saw(0, 0, 0, true), 1);
    }

    private static void sawMonths() {
        HouseTwins x = new HouseTwins();
        for (int m : new int[] {-1, 24, 25, MIN, MAX}) {
            Check.due("saw in month " + m, x.saw(0, 0, m, true), Check.BAD);
            Check.due("saw in month " + m, x.saw(0, 0, m, false), Check.BAD);
        }
        for (int[] lot : NO_LOTS) {
            Check.due("saw on no LOT", x.saw(lot[0], lot[1], 0, true), Check.BAD);
        }
        Check.due("month 0", x.saw(0, 0, 0, true), 1);
        Check.due("month 23", x.saw(1, 4, 23, false), 2);
        HouseTwins bent = Check.told("lots 1;bend 0;");
        Check.due("a LOT that is not matched", bent.saw(1, 0, 0, true), 1);
    }

    private static void forgets() {
        HouseTwins x = onePair();
        Check.due("forget() of nothing", x.forget(), 0);
        for (int n = 1; n <= 12; n++) {
            for (int s = 0; s < n; s++) {
                x.saw(0, 0, 0, false);
            }
            Check.due("it is SEEN", x.histories(0), 0);
            Check.due("forget() of " + n, x.forget(), n);
            Check.due("nothing is SEEN", x.histories(0), 2);
            Check.due("forget() again", x.forget(), 0);
        }
    }

    // ---- promise 37

    private static void historiesUpToM() {
        HouseTwins x = onePair();
        for (int m = 0; m <= 23; m++) {
            // Either BANK, in month 0 to m, the other one in the same month or the next one but for m.
            Check.due("histories(" + m + ")", x.histories(m), 2 * (m + 1 + m));
        }
        for (int m : new int[] {-1, 24, 25, MIN, MAX}) {
            Check.due("histories(" + m + ")", x.histories(m), Check.BAD);
        }
    }

    private static void historiesOfNone() {
        HouseTwins x = new HouseTwins();
        Check.due("no THINGS: one way alone", x.histories(0), 1);
        x.put(0, 0, 1);
        Check.due("not EVEN", x.histories(5), 1);
        x.put(1, 0, 1);
        Check.due("not EVEN by a door", x.histories(5), 1);
        x.put(1, 0, 33);
        Check.due("EVEN", x.histories(5), 22);
        HouseTwins bent = Check.told("lots 2;bend 0;thing 0 0 house 0 left;thing 1 0 house 0 right;");
        Check.due("no PAIRS", bent.histories(23), 1);
    }

    private static void historiesOfAll() {
        HouseTwins x = Check.told("lots 8;");
        for (int i = 0; i < 8; i++) {
            x.put(0, i, 1);
            x.put(1, i, 33);
        }
        // More than an int holds.
        Check.due("94 for each of eight PAIRS", x.histories(23), 6095689385410816L);
        Check.due("2 for each", x.histories(0), 256);
        x.saw(1, 7, 23, false);
        Check.due("none for one of them", x.histories(23), 0);
    }

    private static void historiesOfWhatWasSeen() {
        // SEEN at the end of a month: what was built in it is there.
        for (int m = 0; m <= 3; m++) {
            for (int seen = 0; seen <= 4; seen++) {
                HouseTwins x = onePair();
                x.saw(0, 0, seen, true);
                long there = 0;
                for (int mine = 0; mine <= m; mine++) {
                    // Its own month; the other one's is the same (either began), one earlier or one later.
                    long ways = 2 + (mine > 0 ? 1 : 0) + (mine < m ? 1 : 0);
                    there += mine <= seen ? ways : 0;
                }
                Check.due("something in " + seen + " up to " + m, x.histories(m), there);
                x.forget();
                x.saw(0, 0, seen, false);
                Check.due("nothing in " + seen + " up to " + m, x.histories(m), 4L * m + 2 - there);
            }
        }
        HouseTwins both = onePair();
        both.saw(0, 0, 4, true);
        both.saw(0, 0, 4, false);
        Check.due("both ways: none", both.histories(23), 0);
        HouseTwins gone = onePair();
        gone.saw(1, 0, 4, true);
        gone.saw(1, 0, 5, false);
        Check.due("what is there stays: none", gone.histories(23), 0);
    }

    private static void historiesNotOfAPair() {
        HouseTwins x = onePair();
        x.saw(0, 1, 0, true);
        x.saw(1, 1, 0, true);
        x.saw(0, 4, 23, false);
        Check.due("other LOTS that have none", x.histories(1), 6);
        HouseTwins bent = Check.told("bend 4;thing 0 0 house 0 left;thing 1 1 house 0 right;thing 0 4 house 0 left;");
        bent.saw(1, 0, 0, false);
        bent.saw(0, 1, 0, false);
        bent.saw(0, 4, 23, false);
        Check.due("LOTS of other PAIRS, and one without", bent.histories(1), 6);
        bent.saw(1, 1, 0, false);
        Check.due("its own: BANK 0 in 0 or both in 1, BANK 1 in 1", bent.histories(1), 3);
    }

    // ---- promise 38

    private static void beganMonths() {
        HouseTwins x = onePair();
        for (int m = 0; m <= 23; m++) {
            Check.due("either", x.began(0, m, 0), Check.NONE);
            Check.due("the first month", x.began(0, m, 1), 0);
            Check.due("the last month", x.began(0, m, 2), m);
        }
        // BANK 1 had nothing at the end of 22: it came in 23, BANK 0 in 22 or in 23.
        x.saw(1, 0, 22, false);
        Check.due("the first month", x.began(0, 23, 1), 22);
        Check.due("the last month", x.began(0, 23, 2), 23);
        x.saw(0, 0, 22, true);
        Check.due("the one month", x.began(0, 23, 1), 22);
        Check.due("the one month", x.began(0, 23, 2), 22);
        Check.due("the one BANK", x.began(0, 23, 0), 0);
        for (int m : new int[] {-1, 24, MIN, MAX}) {
            Check.due("began(0, " + m + ", 1)", x.began(0, m, 1), Check.BAD);
        }
        for (int i : new int[] {-1, 5, 8, MIN, MAX}) {
            Check.due("began(" + i + ", 0, 1)", x.began(i, 0, 1), Check.BAD);
        }
        for (int what : new int[] {-1, 3, MIN, MAX}) {
            Check.due("began(0, 0, " + what + ")", x.began(0, 0, what), Check.BAD);
        }
    }

    private static void beganByWhom() {
        for (int b = 0; b < 2; b++) {
            HouseTwins x = onePair();
            x.saw(b, 0, 7, true);
            x.saw(1 - b, 0, 7, false);
            Check.due("BANK " + b, x.began(0, 23, 0), b);
            Check.due("in month 7", x.began(0, 23, 1), 7);
            Check.due("in month 7", x.began(0, 23, 2), 7);
            Check.due("one history", x.histories(23), 1);
        }
        HouseTwins same = onePair();
        same.saw(0, 0, 6, false);
        same.saw(1, 0, 6, false);
        same.saw(0, 0, 7, true);
        same.saw(1, 0, 7, true);
        Check.due("both in one month: either can have begun", same.began(0, 23, 0), Check.NONE);
        Check.due("two histories", same.histories(23), 2);
    }

    private static void beganByNone() {
        HouseTwins x = onePair();
        x.saw(0, 0, 5, false);
        for (int what = 0; what < 3; what++) {
            Check.due("up to 5 none can", x.began(0, 5, what), Check.NONE);
            Check.due("up to 0 none can", x.began(0, 0, what), Check.NONE);
        }
        Check.due("up to 6: the first month", x.began(0, 6, 1), 5);
        Check.due("up to 6: the last month", x.began(0, 6, 2), 6);
        x.saw(1, 0, 3, true);
        for (int what = 0; what < 3; what++) {
            Check.due("two months lie between: none can", x.began(0, 23, what), Check.NONE);
        }
    }

    private static void beganOfNoHistory() {
        HouseTwins x = Check.told("lots 8;bend 6;thing 0 4 house 0 left;thing 1 7 house 0 right;thing 0 3 shop 0 left;");
        for (int what = 0; what < 3; what++) {
            Check.due("nothing there", x.began(0, 23, what), Check.STATE);
            Check.due("not EVEN", x.began(3, 23, what), Check.STATE);
            Check.due("not MATCHED", x.began(7, 23, what), Check.STATE);
        }
        Check.due("the last that is MATCHED", x.began(4, 23, 2), 23);
        Check.due("BAD comes first", x.began(0, 24, 0), Check.BAD);
        Check.due("BAD comes first", x.began(7, 0, 3), Check.BAD);
        Check.due("BAD comes first", x.began(8, 0, 0), Check.BAD);
    }

    // ---- promises 39, 40

    private static void imagesOfNone() {
        HouseTwins x = new HouseTwins();
        Check.due("back(0): there is none", x.back(0), Check.STATE);
        Check.due("back(1): there is none", x.back(1), Check.STATE);
        Check.due("keep(1)", x.keep(1), 0);
        Check.due("back(0): still none", x.back(0), Check.STATE);
        Check.due("back(1): nothing there", x.back(1), 0);
        Check.due("keep(1) again", x.keep(1), 1);
        Check.due("keep(0)", x.keep(0), 0);
        for (int k : new int[] {-1, 2, 3, MIN, MAX}) {
            Check.due("keep(" + k + ")", x.keep(k), Check.BAD);
            Check.due("back(" + k + ")", x.back(k), Check.BAD);
        }
    }

    private static void imagesOfAll() {
        HouseTwins x = Check.told("lots 8;");
        for (int i = 0; i < 8; i++) {
            x.put(0, i, 1);
            x.put(1, i, 2);
        }
        for (int n = 0; n < 12; n++) {
            x.plot(12 + n - 1, 1, 7, 61);
            x.saw(1, 7, n, true);
        }
        for (int n = 0; n < 6; n++) {
            x.want(7, 5);
        }
        x.keep(0);
        for (int i = 0; i < 8; i++) {
            x.put(0, i, 0);
            x.put(1, i, 0);
        }
        x.go();
        x.content();
        x.forget();
        x.plot(0, 0, 0, 0);
        x.want(0, 1);
        x.saw(0, 0, 0, false);
        x.keep(1);
        Check.due("back(0): sixteen", x.back(0), 16);
        Check.due("twelve WORKS", x.rule(3), 12);
        Check.due("its first month", x.work(0, 0), 11);
        Check.due("its last month", x.work(11, 0), 22);
        Check.due("six WANTS", x.count(2), 6);
        Check.due("twelve SEEN", x.count(3), 12);
        Check.due("FULL again", x.plot(23, 0, 0, 0), Check.FULL);
        Check.due("FULL again", x.want(0, 1), Check.FULL);
        Check.due("FULL again", x.saw(0, 0, 0, true), Check.FULL);
        Check.due("back(1): what go() left on two LOTS", x.back(1), 2);
        Check.due("one WORK", x.rule(3), 1);
        Check.due("one WANT", x.count(2), 1);
        Check.due("one SEEN", x.count(3), 1);
        // An IMAGE stays as it was kept, whatever comes behind.
        x.put(0, 0, 5);
        x.plot(1, 0, 0, 0);
        Check.due("back(1) again", x.back(1), 2);
        Check.due("one WORK again", x.rule(3), 1);
        Check.due("back(0) again", x.back(0), 16);
        Check.due("kept over it", x.keep(1), 1);
        Check.due("back(1): as IMAGE 0", x.back(1), 16);
        Check.due("two IMAGES", x.count(4), 2);
    }

    private static void imagesBehindText() {
        HouseTwins x = Check.told("lots 8;thing 1 7 house 0 left;");
        x.keep(0);
        x.keep(1);
        Check.due("a text with a FAULT", Check.tell(x, "lots 9;"), -15);
        Check.due("they stay", x.count(4), 2);
        Check.due("back(0)", x.back(0), 1);
        Check.due("an empty text is taken", x.text(), 0);
        Check.due("they are gone", x.count(4), 0);
        Check.due("back(0)", x.back(0), Check.STATE);
        Check.due("back(1)", x.back(1), Check.STATE);
        Check.due("keep(0): there was none", x.keep(0), 0);
    }

    // ---- promise 41

    private static void sheetsUpTo40() {
        HouseTwins x = new HouseTwins();
        for (int k = 0; k < 4; k++) {
            for (int lane = 0; lane < 3; lane++) {
                for (int n : new int[] {0, 1, 39, 40}) {
                    Check.due("sheet(" + k + ", " + lane + ", " + n + ")", x.sheet(k, lane, n), 1);
                    Check.due("its last CELL", x.lay(k, n - 1, 1), n == 0 ? -12 : 1);
                    Check.due("none behind it", x.lay(k, n, 1), -12);
                }
                for (int n : new int[] {41, 42, 80, 256, MAX}) {
                    Check.due("sheet(" + k + ", " + lane + ", " + n + ")", x.sheet(k, lane, n), Check.BAD);
                }
                Check.due("the SHEET stays", x.lay(k, 39, 1), 1);
            }
        }
        for (int n : new int[] {-1, 4, 5, MIN, MAX}) {
            Check.due("sheet(" + n + ", 0, 1)", x.sheet(n, 0, 1), Check.BAD);
        }
        for (int lane : new int[] {-1, 3, 4, MIN, MAX}) {
            Check.due("sheet(0, " + lane + ", 1)", x.sheet(0, lane, 1), Check.BAD);
        }
    }

    private static void sheetsBelow0() {
        HouseTwins x = new HouseTwins();
        for (int n : new int[] {-1, -2, -40, -41, MIN, MIN + 1}) {
            for (int k = 0; k < 4; k++) {
                Check.due("sheet(" + k + ", 0, " + n + ")", x.sheet(k, 0, n), -14);
                Check.due("it is still nothing", x.lay(k, 0, 1), -11);
            }
            Check.due("BAD comes first", x.sheet(-1, 0, n), Check.BAD);
            Check.due("BAD comes first", x.sheet(4, 0, n), Check.BAD);
            Check.due("BAD comes first", x.sheet(0, -1, n), Check.BAD);
            Check.due("BAD comes first", x.sheet(0, 3, n), Check.BAD);
        }
        Check.due("no FAULT of a read", x.torn(), 0);
    }

    private static void newRowsOf0() {
        for (int lane = 0; lane < 3; lane++) {
            for (int c = 0; c < 40; c++) {
                HouseTwins x = new HouseTwins();
                x.sheet(0, lane, 40);
                x.lay(0, c, 1);
                // A shorter row comes between: nothing of the first one comes again.
                x.sheet(0, lane, c % 2 == 0 ? 40 : 0);
                x.sheet(0, lane, 40);
                for (int f = Math.max(0, c - 2); f <= Math.min(37, c); f++) {
                    x.put(0, 0, 61);
                    x.put(1, 0, 61);
                    x.put(0, 1, 61);
                    Check.due("read from CELL " + f, x.read(0, lane, f, 1), 1);
                    Check.due("CELLS 0: nothing on LOT 0 of BANK 0", x.thing(0, 0), 0);
                    Check.due("as CELL " + c + " is no BANK 1", x.thing(1, 0), 61);
                    Check.due("as CELL " + c + " is no LOT 1", x.thing(0, 1), 61);
                }
            }
        }
        HouseTwins x = new HouseTwins();
        x.sheet(0, 2, 40);
        x.sheet(0, 2, 3);
        Check.due("the longer one is gone", x.lay(0, 3, 1), -12);
        Check.due("no other SHEET is made", x.lay(1, 0, 1), -11);
    }

    // ---- promise 42

    private static void layOnCells() {
        HouseTwins x = new HouseTwins();
        for (int n = 0; n <= 40; n += 8) {
            x.sheet(2, 1, n);
            for (int i : new int[] {-1, 0, 1, n - 1, n, n + 1, 39, 40, 41, MIN, MAX}) {
                Check.due("lay(2, " + i + ", 1) of " + n, x.lay(2, i, 1), i >= 0 && i < n ? 1 : -12);
            }
        }
        for (int k : new int[] {-1, 4, MIN, MAX}) {
            Check.due("lay(" + k + ", 0, 1)", x.lay(k, 0, 1), Check.BAD);
        }
    }

    private static void layOfNothing() {
        HouseTwins x = new HouseTwins();
        for (int k = 0; k < 4; k++) {
            for (int i : new int[] {-1, 0, 40, MIN, MAX}) {
                Check.due("lay(" + k + ", " + i + ", 1) of nothing", x.lay(k, i, 1), -11);
            }
        }
        Check.due("no FAULT of a read", x.torn(), 0);
        x.sheet(1, 0, 0);
        Check.due("no CELLS are not nothing", x.lay(1, 0, 1), -12);
        Check.due("the others are still nothing", x.lay(0, 0, 1), -11);
    }

    /** BANK, LOT and THING, each laid with bits beyond the lane's: what is left is read. */
    private static void lowestBits() {
        int[] width = {8, 16, 32};
        for (int lane = 0; lane < 3; lane++) {
            // Bits 0 to 5 may make another THING: from bit 6 on there is none.
            for (int beyond = 6; beyond < 32; beyond++) {
                HouseTwins x = new HouseTwins();
                x.sheet(0, lane, 3);
                int more = 1 << beyond;
                int[] cells = {1, 3, 61};
                for (int c = 0; c < 3; c++) {
                    x.lay(0, c, cells[c]);
                }
                for (int c = 0; c < 3; c++) {
                    x.lay(0, c, cells[c] + more);
                    boolean cut = beyond >= width[lane];
                    Check.due("bit " + beyond + " on lane " + lane, x.read(0, lane, 0, 1), cut ? 1 : -20);
                    x.lay(0, c, cells[c] - more);
                    Check.due("less bit " + beyond + " on lane " + lane, x.read(0, lane, 0, 1), cut ? 1 : -20);
                    x.lay(0, c, cells[c]);
                }
                x.put(1, 3, 0);
                Check.due("without it", x.read(0, lane, 0, 1), 1);
                Check.due("what was read", x.thing(1, 3), 61);
            }
        }
        // The lane's highest bit makes it less than 0, and that is no BANK.
        for (int lane = 0; lane < 3; lane++) {
            for (int v : new int[] {-1, MIN, MAX, 127, 128, 255, 32767, 32768, 65535}) {
                HouseTwins x = new HouseTwins();
                x.sheet(3, lane, 3);
                Check.due("lay of " + v, x.lay(3, 0, v), 1);
                boolean zero = (lane == 0 ? (byte) v : lane == 1 ? (short) v : v) == 0;
                Check.due("read of " + v + " on lane " + lane, x.read(3, lane, 0, 1), zero ? 1 : -20);
            }
        }
    }

    // ---- promises 43, 44

    /** SHEET k: THINGS 1, 2, .. one behind the other, on LOTS 0 to 4 of BANK 0, then of BANK 1. */
    private static HouseTwins withThings(int k, int lane, int cells) {
        HouseTwins x = new HouseTwins();
        x.sheet(k, lane, cells);
        for (int c = 0; c < cells; c++) {
            int t = c / 3;
            int[] row = {t / 5 % 2, t % 5, 1 + t % 5};
            x.lay(k, c, row[c % 3]);
        }
        return x;
    }

    private static void readUpTo13() {
        for (int lane = 0; lane < 3; lane++) {
            HouseTwins x = withThings(1, lane, 40);
            for (int n : new int[] {-1, 14, 15, MIN, MAX}) {
                Check.due("read of " + n, x.read(1, lane, 0, n), Check.BAD);
            }
            for (int k : new int[] {-1, 4, MIN, MAX}) {
                Check.due("read of SHEET " + k, x.read(k, lane, 0, 1), Check.BAD);
            }
            for (int no : new int[] {-1, 3, MIN, MAX}) {
                Check.due("read of lane " + no, x.read(1, no, 0, 1), Check.BAD);
            }
            Check.due("none was put", x.count(0), 0);
            for (int n = 0; n <= 13; n++) {
                HouseTwins y = withThings(1, lane, 40);
                Check.due("read of " + n, y.read(1, lane, 0, n), n);
                Check.due("no FAULT", y.torn(), 0);
                Check.due("as many are put, ten at most", y.count(0), Math.min(n, 10));
            }
        }
    }

    private static void readOfNone() {
        for (int lane = 0; lane < 3; lane++) {
            for (int f : new int[] {0, 3, 40, -1, MIN, MAX}) {
                HouseTwins x = withThings(0, 0, 3);
                x.read(3, 0, 0, 1);
                Check.due("a FAULT ahead", x.torn(), 1);
                Check.due("read of 0 THINGS", x.read(0, lane, f, 0), 0);
                Check.due("no FAULT", x.torn(), 0);
                x.read(3, 0, 0, 1);
                Check.due("read of 0 THINGS of nothing", x.read(2, lane, f, 0), 0);
                Check.due("no FAULT", x.torn(), 0);
                Check.due("none was put", x.count(0), 0);
            }
        }
    }

    private static void readTorn() {
        for (int cells = 0; cells <= 12; cells++) {
            for (int f = 0; f <= cells; f++) {
                for (int n = 1; n <= 5; n++) {
                    HouseTwins x = new HouseTwins();
                    x.sheet(0, 0, cells);
                    for (int c = f; c < cells; c++) {
                        x.lay(0, c, new int[] {1, (c - f) / 3, 2}[(c - f) % 3]);
                    }
                    int whole = Math.min(n, (cells - f) / 3);
                    String call = "read(0, 0, " + f + ", " + n + ") of " + cells;
                    Check.due(call, x.read(0, 0, f, n), whole);
                    Check.due("torn() of " + call, x.torn(), whole < n ? 2 : 0);
                    Check.due("those that were whole are put", x.count(0), whole);
                    Check.due("not the one that was torn", x.thing(1, whole), 0);
                }
            }
        }
    }

    private static void readFromAnywhere() {
        for (int f : new int[] {-1, -2, -3, -40, 6, 7, 40, 41, MIN, MIN + 1, MIN + 2, MAX, MAX - 1, MAX - 2, MAX - 38}) {
            HouseTwins x = withThings(0, 2, 6);
            for (int n : new int[] {1, 2, 13}) {
                Check.due("read(0, 2, " + f + ", " + n + ")", x.read(0, 2, f, n), 0);
                Check.due("INDEX", x.torn(), 2);
                Check.due("none was put", x.count(0), 0);
            }
        }
    }

    private static void readAsAnotherLane() {
        for (int lane = 0; lane < 3; lane++) {
            for (int as = 0; as < 3; as++) {
                HouseTwins x = withThings(2, lane, 6);
                Check.due("lane " + lane + " as " + as, x.read(2, as, 0, 2), lane == as ? 2 : 0);
                Check.due("CAST", x.torn(), lane == as ? 0 : 3);
                Check.due("what was put", x.count(0), lane == as ? 2 : 0);
                // CAST comes ahead of INDEX, also of a row without CELLS.
                Check.due("from behind its end", x.read(2, as, 40, 1), 0);
                Check.due("CAST, or INDEX", x.torn(), lane == as ? 2 : 3);
                x.sheet(2, lane, 0);
                Check.due("of no CELLS", x.read(2, as, 0, 1), 0);
                Check.due("CAST, or INDEX", x.torn(), lane == as ? 2 : 3);
            }
        }
    }

    private static void readOfNothing() {
        for (int k = 0; k < 4; k++) {
            for (int lane = 0; lane < 3; lane++) {
                for (int f : new int[] {0, -1, 40, MIN, MAX}) {
                    HouseTwins x = new HouseTwins();
                    Check.due("read of nothing", x.read(k, lane, f, 13), 0);
                    Check.due("NULL", x.torn(), 1);
                }
            }
        }
    }

    private static void readOfBadThings() {
        int[][] bad = {{2, 0, 1}, {-1, 0, 1}, {0, 5, 1}, {0, -1, 1}, {1, 7, 1}, {0, 0, 6}, {0, 0, 8}, {0, 0, 32}, {0, 0, 64}, {0, 0, -1}};
        for (int[] row : bad) {
            for (int at = 0; at < 13; at++) {
                HouseTwins x = withThings(0, 0, 40);
                x.read(0, 1, 0, 1);
                for (int c = 0; c < 3; c++) {
                    x.lay(0, 3 * at + c, row[c]);
                }
                Check.due("THING " + at + " is BAD", x.read(0, 0, 0, 13), -20 - at);
                Check.due("none is put", x.count(0), 0);
                Check.due("torn() of the one ahead", x.torn(), 3);
                Check.due("those ahead of it", x.read(0, 0, 0, at), at);
                Check.due("are put", x.count(0), Math.min(at, 10));
                Check.due("from it on: THING 0", x.read(0, 0, 3 * at, 13 - at), -20);
            }
        }
        // The first of several; and one that is not whole is not looked at.
        HouseTwins x = withThings(0, 0, 11);
        x.lay(0, 3, 9);
        x.lay(0, 6, 9);
        Check.due("the first of two", x.read(0, 0, 0, 3), -21);
        x.lay(0, 3, 0);
        x.lay(0, 6, 0);
        x.lay(0, 9, 9);
        Check.due("THING 3, BAD, is not whole", x.read(0, 0, 0, 13), 3);
        Check.due("INDEX", x.torn(), 2);
        x.lay(0, 6, 9);
        Check.due("THING 2 is BAD, THING 3 torn", x.read(0, 0, 0, 13), -22);
        // By the LOTS that there are.
        HouseTwins one = Check.told("lots 1;");
        one.sheet(0, 0, 6);
        one.lay(0, 4, 1);
        Check.due("no such LOT", one.read(0, 0, 0, 2), -21);
    }

    private static void tornOfTheLatest() {
        HouseTwins x = withThings(0, 0, 7);
        Check.due("no read yet", x.torn(), 0);
        x.read(0, 0, 0, 3);
        Check.due("INDEX", x.torn(), 2);
        Check.due("asked again", x.torn(), 2);
        x.read(0, 0, 0, 14);
        Check.due("behind one that is BAD", x.torn(), 2);
        x.lay(0, 99, 0);
        x.sheet(0, 0, -1);
        Check.due("lay and sheet have no part in it", x.torn(), 2);
        x.text();
        Check.due("nor has a text", x.torn(), 2);
        x.read(0, 0, 0, 2);
        Check.due("0 again", x.torn(), 0);
    }

    // ---- promise 45

    private static void counts() {
        HouseTwins x = Check.told("lots 8;bend 0;");
        for (int what : new int[] {-1, 7, 8, 10, MIN, MAX}) {
            Check.due("count(" + what + ")", x.count(what), Check.BAD);
        }
        Check.due("SHEET 0 is nothing", x.count(6), Check.NONE);
        x.sheet(1, 0, 5);
        Check.due("SHEET 1 is not SHEET 0", x.count(6), Check.NONE);
        x.sheet(0, 0, 0);
        Check.due("no CELLS", x.count(6), 0);
        x.sheet(0, 0, 40);
        Check.due("all CELLS", x.count(6), 40);
        for (int n = 1; n <= 16; n++) {
            x.put((n - 1) / 8, (n - 1) % 8, 1);
            Check.due("THINGS", x.count(0), n);
        }
        x.put(1, 7, 0);
        Check.due("nothing does not count", x.count(0), 15);
        Check.due("PAIRS", x.count(1), 5);
        int[] pairs = {0, 0, 1, 2, 1, 0, 0};
        for (int bend = 0; bend <= 6; bend++) {
            Check.due("PAIRS of two LOTS by " + bend, Check.told("lots 2;bend " + bend + ";").count(1), pairs[bend]);
        }
        x.keep(1);
        Check.due("IMAGES", x.count(4), 1);
        x.keep(1);
        Check.due("the same one again", x.count(4), 1);
        x.keep(0);
        Check.due("both", x.count(4), 2);
        for (int n = 1; n <= 50; n++) {
            x.feed(0L);
            Check.due("bytes", x.count(5), 8 * n);
        }
    }

    /** The object is of use for 512 calls: the last one of them answers as any. */
    private static void fiveHundredAndTwelveCalls() {
        HouseTwins x = new HouseTwins();
        for (int n = 1; n <= 511; n++) {
            Check.due("call " + n, x.put(0, 0, n % 2), (n - 1) % 2);
        }
        Check.due("call 512", x.thing(0, 0), 1);
    }
}

/** Promises 23 to 34 and their Terms at the edges: one method for each sentence that names some. */
public final class ChoicesEdgesTest {
    private static final int MIN = Integer.MIN_VALUE, MAX = Integer.MAX_VALUE;
    private static final int[][] NO_LOTS = {{-1, 0}, {2, 0}, {MIN, 0}, {MAX, 0}, {0, -1}, {1, -1}, {0, 5}, {1, 5}, {0, 8}, {1, 8}, {0, MIN}, {1, MAX}};
    private static final String[] KINDS = {"", "house", "garden", "shop", "tower", "shrine"};
    private static final String LACKS_ALL_0 = "lack 0 house;lack 0 garden;lack 0 shop;lack 0 tower;lack 0 shrine;";
    private static final String LACKS_ALL_1 = "lack 1 house;lack 1 garden;lack 1 shop;lack 1 tower;lack 1 shrine;";

    public static void main(String[] args) {
        gainOfKinds();
        leastAndMostGain();
        beginAbove0();
        beginOfSeveral();
        beginLacking();
        beginOfNoLot();
        waitsBelow0();
        waitsForNone();
        waitsNotMatched();
        leastAndMostVex();
        vexOfSeveral();
        vexOfNone();
        vexOfNothingIsNone();
        wantsUpToSix();
        contents();
        planOfNoWants();
        planMonths();
        planOfTwelveMonths();
        leastAndMostPlan();
        planOfSeveral();
        cannotOfWants();
        cannotLacksAll();
        fireOfNothing();
        fireNoDearer();
        fireNotMatched();
        fireAtTheBounds();
        quarrelByEveryBend();
        bendOfSeveral();
        shopsNextToOne();
        fewestShops();
        Check.finish("ChoicesEdgesTest");
    }

    // ---- promise 23

    private static void gainOfKinds() {
        HouseTwins x = new HouseTwins();
        for (int k : new int[] {-1, 0, 6, 7, MIN, MAX}) {
            Check.due("gain(0, 0, " + k + ")", x.gain(0, 0, k), Check.BAD);
        }
        for (int k = 1; k <= 5; k++) {
            Check.due("gain(1, 4, " + k + ")", x.gain(1, 4, k), 998);
        }
        for (int[] lot : NO_LOTS) {
            Check.due("gain of no LOT", x.gain(lot[0], lot[1], 1), Check.BAD);
        }
    }

    private static void leastAndMostGain() {
        HouseTwins x = Check.told("cost 0 20 0 0 0 0;taste 0 0 20 0 0 0;");
        Check.due("the most", x.gain(0, 0, 2), 1020);
        Check.due("without what is there", x.gain(0, 0, 1), 980);
        x.put(0, 0, 2);
        Check.due("the least", x.gain(0, 0, 1), 960);
        Check.due("of the same KIND", x.gain(0, 0, 2), 1000);
        // What a BANK LACKS has its GAIN too, and the other BANK has no part in it.
        HouseTwins y = Check.told(LACKS_ALL_0 + LACKS_ALL_1);
        y.put(1, 0, 5);
        Check.due("of what is lacked", y.gain(0, 0, 1), 998);
    }

    // ---- promise 24

    private static void beginAbove0() {
        int[] tastes = {4, 5, 6, 20};
        int[] gains = {Check.NONE, Check.NONE, 1, 15};
        for (int n = 0; n < tastes.length; n++) {
            HouseTwins x = Check.told("taste 1 0 0 0 0 " + tastes[n] + ";");
            Check.due("begin(1, 4, 0) by " + tastes[n], x.begin(1, 4, 0), gains[n] > 0 ? 5 : Check.NONE);
            Check.due("begin(1, 4, 1) by " + tastes[n], x.begin(1, 4, 1), gains[n]);
        }
        HouseTwins most = Check.told("cost 0 0 0 0 0 0;taste 0 0 0 0 0 20;");
        Check.due("the most", most.begin(0, 0, 1), 20);
        most.put(0, 0, 5);
        Check.due("it is there already", most.begin(0, 0, 0), Check.NONE);
        // What is there may be of the same KIND, and still bring something: never, as its own TASTE is taken off.
        HouseTwins same = Check.told("cost 0 0 0 0 0 0;taste 0 7 7 7 7 7;thing 0 0 house 0 left;");
        Check.due("all bring 0", same.begin(0, 0, 0), Check.NONE);
    }

    private static void beginOfSeveral() {
        for (int first = 1; first <= 5; first++) {
            for (int second = first + 1; second <= 5; second++) {
                StringBuilder tastes = new StringBuilder("taste 0");
                for (int k = 1; k <= 5; k++) {
                    tastes.append(k == first || k == second ? " 9" : " 8");
                }
                HouseTwins x = Check.told(tastes + ";");
                Check.due("of several the least", x.begin(0, 2, 0), first);
                Check.due("their GAIN", x.begin(0, 2, 1), 4);
            }
        }
    }

    private static void beginLacking() {
        HouseTwins x = Check.told("bend 4;taste 0 9 8 7 6 6;taste 1 9 8 7 6 6;twin house shop;lack 0 garden;lack 1 shop;");
        // BANK 0, matched: no house (its twin is lacked across), no garden; a shop, whose twin is a house.
        Check.due("begin(0, 0, 0)", x.begin(0, 0, 0), 3);
        Check.due("begin(0, 4, 0): not matched", x.begin(0, 4, 0), 1);
        // BANK 1, matched: a house, whose twin BANK 0 does not LACK.
        Check.due("begin(1, 1, 0)", x.begin(1, 1, 0), 1);
        HouseTwins none = Check.told("bend 4;taste 0 9 9 9 9 9;taste 1 9 9 9 9 9;" + LACKS_ALL_0);
        Check.due("begin(0, 0, 0): it LACKS all", none.begin(0, 0, 0), Check.NONE);
        Check.due("begin(0, 4, 0): it LACKS all", none.begin(0, 4, 0), Check.NONE);
        Check.due("begin(1, 1, 0): the other one LACKS all", none.begin(1, 1, 0), Check.NONE);
        Check.due("begin(1, 0, 0): not matched", none.begin(1, 0, 0), 1);
    }

    private static void beginOfNoLot() {
        HouseTwins x = Check.told("taste 0 9 9 9 9 9;taste 1 9 9 9 9 9;");
        for (int[] lot : NO_LOTS) {
            Check.due("begin of no LOT", x.begin(lot[0], lot[1], 0), Check.BAD);
            Check.due("begin of no LOT", x.begin(lot[0], lot[1], 1), Check.BAD);
            Check.due("waits of no LOT", x.waits(lot[0], lot[1]), Check.BAD);
        }
        for (int what : new int[] {-1, 2, 3, MIN, MAX}) {
            Check.due("begin(0, 0, " + what + ")", x.begin(0, 0, what), Check.BAD);
        }
    }

    // ---- promise 25

    private static void waitsBelow0() {
        HouseTwins x = Check.told("taste 1 20 0 0 0 0;cost 0 20 20 20 20 20;taste 0 0 20 20 20 20;thing 0 0 shop 0 left;");
        Check.due("the least: 0, 20 and 20 less", x.waits(0, 0), 960);
        Check.due("on nothing", x.waits(0, 1), 980);
        HouseTwins most = Check.told("taste 1 0 0 0 0 6;twin shrine house;cost 0 0 20 20 20 20;taste 0 20 0 0 0 0;");
        Check.due("the most, by the TWIN", most.waits(0, 4), 1020);
    }

    private static void waitsForNone() {
        HouseTwins x = Check.told("taste 1 5 5 5 5 5;taste 0 20 20 20 20 20;");
        Check.due("that does not BEGIN", x.waits(0, 0), 1000);
        HouseTwins y = Check.told("taste 1 6 5 5 5 5;taste 0 20 20 20 20 20;");
        Check.due("it does", y.waits(0, 0), 1015);
        y.put(1, 0, 2);
        Check.due("by what is there it does not", y.waits(0, 0), 1000);
        HouseTwins z = Check.told("taste 1 20 5 5 5 5;lack 0 house;");
        Check.due("this one LACKS its TWIN: no BEGIN", z.waits(0, 0), 1000);
    }

    private static void waitsNotMatched() {
        HouseTwins low = Check.told("bend 0;");
        int[] due = {Check.STATE, Check.STATE, Check.STATE, 1000, 1000};
        for (int i = 0; i < 5; i++) {
            Check.due("waits(0, " + i + ")", low.waits(0, i), due[i]);
            Check.due("waits(1, " + (4 - i) + ")", low.waits(1, 4 - i), due[i]);
        }
        HouseTwins high = Check.told("lots 1;bend 6;");
        Check.due("waits(0, 0)", high.waits(0, 0), Check.STATE);
        Check.due("waits(1, 0)", high.waits(1, 0), Check.STATE);
        Check.due("waits(0, 1)", high.waits(0, 1), Check.BAD);
    }

    // ---- promise 26

    private static void leastAndMostVex() {
        HouseTwins most = Check.told("lots 1;cost 1 0 0 20 0 0;taste 1 20 20 0 20 20;thing 1 0 house 0 left;");
        Check.due("the most: 20 and 20 less 0", most.vex(0, 0), 1040);
        Check.due("its LOT", most.vex(0, 1), 0);
        Check.due("its KIND", most.vex(0, 2), 3);
        HouseTwins least = Check.told("cost 1 0 0 0 0 0;taste 1 20 20 20 20 20;");
        Check.due("the least: 0 and 0 less 20", least.vex(0, 0), 980);
        Check.due("its LOT", least.vex(0, 1), 0);
        Check.due("its KIND", least.vex(0, 2), 1);
        HouseTwins zero = Check.told("cost 0 3 3 3 3 3;");
        Check.due("a VEX of 0", zero.vex(1, 0), 1000);
        Check.due("a VEX of 0: its LOT", zero.vex(1, 1), 0);
        HouseTwins last = Check.told("lots 8;thing 1 7 shop 0 left;");
        Check.due("on the last LOT", last.vex(0, 0), 1005);
        Check.due("on the last LOT", last.vex(0, 1), 7);
        for (int b : new int[] {-1, 2, MIN, MAX}) {
            Check.due("vex(" + b + ", 0)", last.vex(b, 0), Check.BAD);
        }
        for (int what : new int[] {-1, 3, MIN, MAX}) {
            Check.due("vex(0, " + what + ")", last.vex(0, what), Check.BAD);
        }
    }

    private static void vexOfSeveral() {
        for (int cheap = 1; cheap <= 5; cheap++) {
            StringBuilder costs = new StringBuilder("lots 3;cost 0");
            for (int k = 1; k <= 5; k++) {
                costs.append(k == cheap ? " 0" : " 1");
            }
            HouseTwins x = Check.told(costs + ";");
            Check.due("the least COST", x.vex(0, 2), cheap);
            Check.due("then the least LOT", x.vex(0, 1), 0);
            x.put(0, 0, cheap);
            Check.due("COST goes ahead of LOT", x.vex(0, 1), 1);
            Check.due("COST goes ahead of LOT", x.vex(0, 2), cheap);
            x.put(0, 1, cheap + 8);
            x.put(0, 2, cheap + 32);
            Check.due("none is left at that COST: the least LOT", x.vex(0, 1), 0);
            Check.due("then the least KIND", x.vex(0, 2), cheap == 1 ? 2 : 1);
        }
        // A greater VEX goes ahead of COST.
        HouseTwins y = Check.told("cost 0 0 0 0 0 20;cost 1 1 1 1 1 2;");
        Check.due("vex(0, 0)", y.vex(0, 0), 999);
        Check.due("vex(0, 2)", y.vex(0, 2), 5);
    }

    private static void vexOfNone() {
        for (int bend : new int[] {0, 6}) {
            HouseTwins x = Check.told("lots 3;bend " + bend + ";");
            for (int what = 0; what < 3; what++) {
                Check.due("no PAIRS", x.vex(0, what), Check.NONE);
                Check.due("no PAIRS", x.vex(1, what), Check.NONE);
            }
        }
        for (String lacks : new String[] {LACKS_ALL_0, LACKS_ALL_1}) {
            HouseTwins x = Check.told(lacks);
            for (int what = 0; what < 3; what++) {
                Check.due("nothing may be done", x.vex(0, what), Check.NONE);
                Check.due("nothing may be done", x.vex(1, what), Check.NONE);
            }
        }
        HouseTwins one = Check.told("lots 1;lack 0 house;lack 0 garden;lack 1 shop;lack 1 tower;thing 0 0 shrine 0 left;");
        Check.due("the one that may is there", one.vex(0, 0), Check.NONE);
        Check.due("across it is not", one.vex(1, 2), 5);
    }

    private static void vexOfNothingIsNone() {
        // To make nothing of it would vex by PULL and TASTE: but a KIND is 1 to 5.
        HouseTwins x = Check.told("lots 1;pull 20;thing 0 0 house 0 left;thing 1 0 house 0 right;cost 1 0 0 0 0 0;taste 1 20 20 20 20 20;");
        Check.due("vex(0, 0)", x.vex(0, 0), 1000);
        Check.due("vex(0, 2)", x.vex(0, 2), 2);
    }

    // ---- promises 27, 28

    private static void wantsUpToSix() {
        for (int lots : new int[] {1, 8}) {
            HouseTwins x = Check.told("lots " + lots + ";bend 0;");
            for (int i : new int[] {-1, lots, MIN, MAX}) {
                Check.due("want(" + i + ", 1)", x.want(i, 1), Check.BAD);
            }
            for (int k : new int[] {-1, 0, 6, 7, MIN, MAX}) {
                Check.due("want(0, " + k + ")", x.want(0, k), Check.BAD);
            }
            for (int n = 1; n <= 6; n++) {
                // A LOT that is not MATCHED, and one that is wanted already, may be wanted.
                Check.due("want " + n, x.want(lots - 1, n <= 5 ? n : 1), n);
            }
            Check.due("want 7", x.want(0, 1), Check.FULL);
            Check.due("want 7 again", x.want(0, 5), Check.FULL);
            Check.due("BAD comes first", x.want(lots, 1), Check.BAD);
            Check.due("BAD comes first", x.want(0, 6), Check.BAD);
            Check.due("six", x.count(2), 6);
        }
    }

    private static void contents() {
        HouseTwins x = new HouseTwins();
        Check.due("content() of none", x.content(), 0);
        for (int n = 0; n <= 6; n++) {
            for (int w = 0; w < n; w++) {
                x.want(w % 5, 1);
            }
            Check.due("content() of " + n, x.content(), n);
            Check.due("no WANTS", x.count(2), 0);
            Check.due("no WANTS", x.cannot(0), 0);
            Check.due("content() again", x.content(), 0);
        }
    }

    // ---- promise 29

    private static void planOfNoWants() {
        HouseTwins x = new HouseTwins();
        for (int month = 0; month <= 3; month++) {
            Check.due("plan(" + month + ", 0)", x.plan(month, 0), Check.STATE);
        }
        x.want(0, 1);
        x.content();
        Check.due("plan behind content()", x.plan(0, 0), Check.STATE);
        for (int month : new int[] {-1, 4, MIN, MAX}) {
            Check.due("plan(" + month + ", 0)", x.plan(month, 0), Check.BAD);
        }
    }

    private static void planMonths() {
        HouseTwins x = new HouseTwins();
        for (int n = 1; n <= 6; n++) {
            x.want(0, n <= 5 ? n : 1);
            for (int month : new int[] {-1, 4, 5, 24, MIN, MAX}) {
                Check.due("plan(" + month + ", 0)", x.plan(month, 0), Check.BAD);
                Check.due("plan(" + month + ", 10)", x.plan(month, 10), Check.BAD);
            }
            for (int month = 0; month <= 3; month++) {
                for (int what : new int[] {-1, 1, 9, 10 + n, 16, 17, 20, MIN, MAX}) {
                    Check.due("plan(" + month + ", " + what + ") of " + n, x.plan(month, what), Check.BAD);
                }
                for (int j = 0; j < n; j++) {
                    Check.due("all months cost the same: one behind the other", x.plan(month, 10 + j), month + j);
                }
                Check.due("its cost", x.plan(month, 0), 10 * n);
            }
        }
    }

    /** Twelve months from the first one on: of each PRICE there are three, and no month is taken twice. */
    private static void planOfTwelveMonths() {
        int[][] firsts = {{0, 4, 8}, {4, 8, 12}, {4, 8, 12}, {4, 8, 12}};
        int[] fourth = {1, 1, 2, 3};
        for (int month = 0; month <= 3; month++) {
            HouseTwins x = Check.told("price 1 9 9 9;cost 0 1 2 2 2 2;cost 1 0 0 0 0 0;");
            x.want(0, 2);
            x.want(0, 3);
            x.want(0, 4);
            for (int j = 0; j < 3; j++) {
                Check.due("the cheap months from " + month, x.plan(month, 10 + j), firsts[month][j]);
            }
            x.want(0, 1);
            Check.due("cost with a fourth", x.plan(month, 0), 6 + 9);
            Check.due("the fourth, which is cheap, goes to a dear month", x.plan(month, 13), fourth[month]);
        }
        // The last of the twelve, month 14, is taken; month 15 would not be among them.
        HouseTwins y = Check.told("price 9 9 1 9;");
        y.want(0, 1);
        y.want(0, 1);
        y.want(0, 1);
        y.want(0, 1);
        int[] due = {3, 6, 10, 14};
        for (int j = 0; j < 4; j++) {
            Check.due("from month 3 on", y.plan(3, 10 + j), due[j]);
        }
        Check.due("its cost", y.plan(3, 0), 30 + 90);
    }

    private static void leastAndMostPlan() {
        HouseTwins most = Check.told("price 9 9 9 9;cost 0 20 20 20 20 20;cost 1 20 20 20 20 20;");
        HouseTwins least = Check.told("cost 0 0 0 0 0 0;cost 1 0 0 0 0 0;price 9 8 7 6;");
        for (int n = 1; n <= 6; n++) {
            most.want(0, 5);
            least.want(0, 5);
            Check.due("the most", most.plan(3, 0), 360 * n);
            Check.due("the least", least.plan(3, 0), 0);
            Check.due("what costs nothing goes first", least.plan(3, 9 + n), 2 + n);
        }
        // PRICE by the number of the month modulo 4, whichever is the first one.
        HouseTwins x = Check.told("price 5 6 7 8;");
        x.want(0, 1);
        for (int month = 0; month <= 3; month++) {
            Check.due("plan(" + month + ", 0)", x.plan(month, 0), 50);
            Check.due("plan(" + month + ", 10)", x.plan(month, 10), month == 0 ? 0 : 4);
        }
        // The KIND for BANK 0, its TWIN for BANK 1; LACKS and the LOT have no part in it.
        HouseTwins y = Check.told("twin house shrine;cost 0 1 0 0 0 20;cost 1 20 0 0 0 3;lack 0 house;lack 1 shrine;bend 0;lots 1;");
        y.want(0, 1);
        Check.due("1 and 3", y.plan(0, 0), 4);
    }

    private static void planOfSeveral() {
        // Months 0, 1 cost the same: the first WANT has the first one, also if they cost the same otherwise.
        HouseTwins x = Check.told("price 1 1 9 9;cost 0 1 2 3 4 5;cost 1 0 0 0 0 0;");
        x.want(0, 5);
        x.want(0, 1);
        x.want(0, 5);
        int[] from0 = {0, 1, 4};
        int[] from2 = {4, 5, 8};
        for (int j = 0; j < 3; j++) {
            Check.due("from 0", x.plan(0, 10 + j), from0[j]);
            Check.due("from 2", x.plan(2, 10 + j), from2[j]);
        }
        // The dearer one must have the cheaper month, though it is the second: then the first has the next one.
        HouseTwins y = Check.told("price 1 2 9 9;cost 0 1 20 0 0 0;cost 1 0 0 0 0 0;");
        for (int n = 0; n < 3; n++) {
            y.want(0, 2);
        }
        y.want(0, 1);
        Check.due("the cost", y.plan(0, 0), 60 + 2);
        Check.due("the last one", y.plan(0, 13), 1);
    }

    // ---- promise 30

    private static void cannotOfWants() {
        for (int k = 1; k <= 5; k++) {
            for (int b = 0; b < 2; b++) {
                HouseTwins x = Check.told("cost 1 1 2 3 4 5;lack " + b + " " + KINDS[k] + ";");
                Check.due("no WANTS", x.cannot(0), 0);
                Check.due("no WANTS", x.cannot(1), 0);
                for (int n = 1; n <= 5; n++) {
                    x.want(0, n);
                }
                Check.due("the one that is lacked", x.cannot(0), 1 << k);
                Check.due("BANK 1 takes the cheapest", x.cannot(1), b == 0 ? 0 : k == 1 ? 2 : 1);
                x.want(0, k);
                Check.due("wanted twice: one bit", x.cannot(0), 1 << k);
                Check.due("wanted twice: each time", x.cannot(1), b == 0 ? 0 : k == 1 ? 4 : 2);
            }
        }
        HouseTwins x = Check.told("twin house shrine;lack 1 shrine;cost 1 20 20 20 20 0;");
        x.want(0, 5);
        Check.due("its TWIN is not lacked", x.cannot(0), 0);
        Check.due("its TWIN is not lacked", x.cannot(1), 0);
        x.want(0, 1);
        Check.due("its TWIN is", x.cannot(0), 2);
        Check.due("not by what is lacked, though that is cheaper", x.cannot(1), 20);
        for (int n = 0; n < 4; n++) {
            x.want(0, 1);
        }
        Check.due("the most", x.cannot(1), 100);
        for (int what : new int[] {-1, 2, MIN, MAX}) {
            Check.due("cannot(" + what + ")", x.cannot(what), Check.BAD);
        }
        HouseTwins falling = Check.told("lack 1 house;cost 0 20 20 20 20 20;cost 1 9 8 7 6 5;");
        falling.want(0, 1);
        Check.due("the cheapest for BANK 1", falling.cannot(1), 5);
        HouseTwins rising = Check.told("lack 1 house;cost 0 4 3 2 1 0;cost 1 1 2 3 4 5;");
        rising.want(0, 1);
        Check.due("the cheapest for BANK 1", rising.cannot(1), 2);
        HouseTwins free = Check.told("lack 1 house;cost 1 5 0 5 5 5;");
        free.want(0, 1);
        Check.due("a KIND that costs nothing", free.cannot(1), 0);
    }

    private static void cannotLacksAll() {
        HouseTwins all = Check.told(LACKS_ALL_0 + LACKS_ALL_1);
        Check.due("no WANTS: no KINDS", all.cannot(0), 0);
        all.want(0, 1);
        all.want(0, 5);
        Check.due("KINDS", all.cannot(0), 2 | 32);
        Check.due("it LACKS all", all.cannot(1), Check.NONE);
        HouseTwins own = Check.told(LACKS_ALL_0);
        own.want(0, 3);
        Check.due("BANK 0 LACKS all: BANK 1 pays nothing", own.cannot(1), 0);
        Check.due("KINDS", own.cannot(0), 8);
        HouseTwins but = Check.told("lack 1 house;lack 1 garden;lack 1 shop;lack 1 tower;cost 1 1 1 1 1 19;");
        but.want(0, 1);
        Check.due("all but one", but.cannot(1), 19);
    }

    // ---- promise 31

    private static void fireOfNothing() {
        HouseTwins x = Check.told("thing 0 0 house 0 left;");
        Check.due("nothing there", x.fire(1, 0, 0), Check.STATE);
        Check.due("nothing there", x.fire(1, 0, 1), Check.STATE);
        Check.due("nothing there", x.fire(0, 4, 1), Check.STATE);
        for (int[] lot : NO_LOTS) {
            Check.due("fire on no LOT", x.fire(lot[0], lot[1], 0), Check.BAD);
            Check.due("fire on no LOT", x.fire(lot[0], lot[1], 1), Check.BAD);
        }
        for (int what : new int[] {-1, 2, MIN, MAX}) {
            Check.due("fire(0, 0, " + what + ")", x.fire(0, 0, what), Check.BAD);
            Check.due("fire(0, 4, " + what + "): BAD comes first", x.fire(0, 4, what), Check.BAD);
        }
        Check.due("it is only asked", x.thing(0, 0), 1);
    }

    private static void fireNoDearer() {
        // PULL 1, TASTES 3 and 3: 7.
        int[] costs = {6, 7, 8};
        for (int cost : costs) {
            HouseTwins x = Check.told("cost 0 " + cost + " 0 0 0 0;thing 0 0 house 0 left;thing 1 0 house 0 right;");
            Check.due("built again at " + cost, x.fire(0, 0, 0), cost <= 7 ? 1 : 0);
            Check.due("what that costs", x.fire(0, 0, 1), Math.min(cost, 7));
        }
    }

    private static void fireNotMatched() {
        // TASTE 3 alone, without PULL.
        for (int cost : new int[] {2, 3, 4}) {
            HouseTwins x = Check.told("bend 4;pull 20;cost 0 " + cost + " 0 0 0 0;thing 0 4 house 0 left;cost 1 " + cost + " 0 0 0 0;thing 1 0 house 0 left;");
            for (int b = 0; b < 2; b++) {
                Check.due("built again at " + cost, x.fire(b, b == 0 ? 4 : 0, 0), cost <= 3 ? 1 : 0);
                Check.due("what that costs", x.fire(b, b == 0 ? 4 : 0, 1), Math.min(cost, 3));
            }
        }
    }

    private static void fireAtTheBounds() {
        HouseTwins most = Check.told("pull 20;cost 0 20 20 20 20 20;taste 0 20 20 20 20 20;taste 1 20 20 20 20 20;thing 0 0 house 0 left;thing 1 0 house 0 right;");
        Check.due("20, or 60", most.fire(0, 0, 0), 1);
        Check.due("20, or 60", most.fire(0, 0, 1), 20);
        HouseTwins least = Check.told("pull 0;cost 0 0 1 0 0 0;taste 0 0 0 0 0 0;taste 1 0 0 0 0 0;thing 0 0 house 0 left;thing 0 1 garden 0 left;");
        Check.due("0, or 0: built again", least.fire(0, 0, 0), 1);
        Check.due("0, or 0", least.fire(0, 0, 1), 0);
        Check.due("1, or 0: both are pulled down", least.fire(0, 1, 0), 0);
        Check.due("1, or 0", least.fire(0, 1, 1), 0);
    }

    // ---- promises 32, 33

    private static void quarrelByEveryBend() {
        HouseTwins x = new HouseTwins();
        for (int bend = 0; bend <= 6; bend++) {
            Check.due("of nothing", x.quarrel(bend), 0);
        }
        for (int bend : new int[] {-1, 7, 8, MIN, MAX}) {
            Check.due("quarrel(" + bend + ")", x.quarrel(bend), Check.BAD);
        }
        // Every LOT has the same THING, none is its own MIRROR: PAIRS and LOTS that are not MATCHED.
        HouseTwins full = Check.told("lots 8;bend 6;");
        for (int i = 0; i < 8; i++) {
            full.put(0, i, 1);
            full.put(1, i, 1);
        }
        int[] due = {5 + 6, 6 + 4, 7 + 2, 8, 7 + 2, 6 + 4, 5 + 6};
        for (int bend = 0; bend <= 6; bend++) {
            Check.due("quarrel(" + bend + ")", full.quarrel(bend), due[bend]);
        }
        for (int i = 0; i < 8; i++) {
            full.put(1, i, 33);
        }
        int[] even = {6, 4, 2, 0, 2, 4, 6};
        for (int bend = 0; bend <= 6; bend++) {
            Check.due("quarrel(" + bend + ") of mirrors", full.quarrel(bend), even[bend]);
        }
        HouseTwins one = Check.told("lots 1;thing 0 0 house 0 left;thing 1 0 house 0 right;");
        for (int bend = 0; bend <= 6; bend++) {
            Check.due("one LOT", one.quarrel(bend), bend == 3 ? 0 : 2);
        }
    }

    private static void bendOfSeveral() {
        Check.due("all the same: the least", new HouseTwins().bend(), 0);
        for (int bend = 0; bend <= 6; bend++) {
            HouseTwins x = Check.told("lots 8;bend " + (6 - bend) + ";");
            x.put(0, 3, 1);
            x.put(1, bend, 33);
            Check.due("the one that makes them even", x.bend(), bend);
            Check.due("BEND stays", x.rule(1), 6 - bend);
            // LOTS 3 of BANK 0, 0 and 6 of BANK 1: even by 0 and by 6 alike.
            x.put(1, bend, 0);
            x.put(1, 0, 33);
            x.put(1, 6, 33);
            Check.due("of two the least", x.bend(), 0);
        }
        // Only a BEND of 7, or one below 0, would make these even.
        Check.due("none above 6", Check.told("lots 8;thing 0 0 house 0 left;thing 1 4 house 0 right;").bend(), 0);
        Check.due("none below 0", Check.told("lots 8;thing 0 4 house 0 left;thing 1 0 house 0 right;").bend(), 0);
        HouseTwins one = Check.told("lots 1;thing 0 0 house 0 left;");
        Check.due("one THING alone quarrels by every BEND", one.bend(), 0);
        one.put(1, 0, 33);
        Check.due("the one BEND with a PAIR", one.bend(), 3);
    }

    // ---- promise 34

    private static void shopsNextToOne() {
        for (int lots = 1; lots <= 8; lots++) {
            HouseTwins x = Check.told("lots " + lots + ";");
            for (int i = 0; i < lots; i++) {
                x.put(0, i, 3 + 8 * (i % 4) + 32 * (i % 2));
            }
            Check.due("all of " + lots, x.shops(0, 0), lots == 1 ? 0 : (1 << lots) - 1);
            Check.due("the fewest of " + lots, x.shops(0, 1), lots / 2);
            Check.due("the other BANK has none", x.shops(1, 0), 0);
            Check.due("the other BANK has none", x.shops(1, 1), 0);
        }
        // The first and the last LOT are not next to each other, nor are LOTS across the water.
        HouseTwins x = Check.told("lots 8;thing 0 0 shop 0 left;thing 0 7 shop 0 left;thing 1 1 shop 0 left;thing 1 6 shop 0 left;");
        for (int b = 0; b < 2; b++) {
            Check.due("shops(" + b + ", 0)", x.shops(b, 0), 0);
            Check.due("shops(" + b + ", 1)", x.shops(b, 1), 0);
        }
        for (int b : new int[] {-1, 2, MIN, MAX}) {
            Check.due("shops(" + b + ", 0)", x.shops(b, 0), Check.BAD);
            Check.due("shops(" + b + ", 1)", x.shops(b, 1), Check.BAD);
        }
        for (int what : new int[] {-1, 2, MIN, MAX}) {
            Check.due("shops(0, " + what + ")", x.shops(0, what), Check.BAD);
        }
    }

    /** Every row of eight LOTS; the fewest are half of each chain of shops. */
    private static void fewestShops() {
        for (int row = 0; row < 256; row++) {
            HouseTwins x = Check.told("lots 8;");
            int near = 0;
            int go = 0;
            int chain = 0;
            for (int i = 0; i < 8; i++) {
                boolean shop = (row >> i & 1) == 1;
                x.put(1, i, shop ? 3 : 4);
                boolean left = i > 0 && (row >> (i - 1) & 1) == 1;
                boolean right = i < 7 && (row >> (i + 1) & 1) == 1;
                near |= shop && (left || right) ? 1 << i : 0;
                chain = shop ? chain + 1 : 0;
                go += chain > 0 && chain % 2 == 0 ? 1 : 0;
            }
            Check.due("shops(1, 0) of " + row, x.shops(1, 0), near);
            Check.due("shops(1, 1) of " + row, x.shops(1, 1), go);
        }
    }
}

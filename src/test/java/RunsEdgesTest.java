/** Promises 11 to 22 and their Terms at the edges: one method for each sentence that names some. */
public final class RunsEdgesTest {
    private static final int MIN = Integer.MIN_VALUE, MAX = Integer.MAX_VALUE;
    private static final int[] NO_BANKS = {-1, 2, 3, MIN, MAX};

    public static void main(String[] args) {
        lotsOfAThing();
        putOnEveryLot();
        putOfEveryThing();
        matchedIfThereIsSuchAOne();
        evenOfNothing();
        oddOfEveryLot();
        thirdBank();
        monthsOfARun();
        barredByItself();
        barredByTheOther();
        barredAheadOfGivingWay();
        nothingIsNeverLacked();
        givesWayInThisMonthAlone();
        givesWayOnlyIfUneven();
        whatGaveWayWasNotWorkedOn();
        ownLotTwice();
        notMatched();
        paysPullForNothing();
        endOfAMonth();
        lastMonth();
        latestIsWhoWas();
        pairsByLotsOfBank0();
        owesAtFirst();
        mostThatCanBePaid();
        fates();
        uneven();
        goes();
        plots();
        Check.finish("RunsEdgesTest");
    }

    // ---- promises 11, 12

    private static void lotsOfAThing() {
        for (int lots = 1; lots <= 8; lots++) {
            HouseTwins x = Check.told("lots " + lots + ";");
            for (int i : new int[] {-1, 0, 1, 2, 3, 4, 5, 6, 7, 8, 9, 16, MIN, MAX}) {
                boolean is = i >= 0 && i < lots;
                for (int b = 0; b < 2; b++) {
                    Check.due("thing(" + b + ", " + i + ") of " + lots, x.thing(b, i), is ? 0 : Check.BAD);
                    Check.due("put(" + b + ", " + i + ", 1) of " + lots, x.put(b, i, 1), is ? 0 : Check.BAD);
                    Check.due("thing(" + b + ", " + i + ") of " + lots, x.thing(b, i), is ? 1 : Check.BAD);
                }
            }
            for (int b : NO_BANKS) {
                Check.due("thing of no BANK", x.thing(b, 0), Check.BAD);
                Check.due("put of no BANK", x.put(b, 0, 2), Check.BAD);
            }
            Check.due("all LOTS, no more", x.count(0), 2 * lots);
        }
    }

    private static void putOnEveryLot() {
        HouseTwins x = Check.told("lots 8;");
        for (int b = 0; b < 2; b++) {
            for (int i = 0; i < 8; i++) {
                Check.due("put on nothing", x.put(b, i, 1 + i % 5 + 32 * b), 0);
            }
        }
        for (int b = 0; b < 2; b++) {
            for (int i = 0; i < 8; i++) {
                Check.due("what was there", x.put(b, i, 0), 1 + i % 5 + 32 * b);
                Check.due("nothing then", x.thing(b, i), 0);
            }
        }
        // Nobody WORKS: nothing is paid, owed or lacked.
        HouseTwins y = Check.told("lack 0 shop;lack 1 shop;");
        Check.due("put of what is lacked", y.put(0, 0, 3), 0);
        Check.due("paid(24, 0)", y.paid(24, 0), 0);
        Check.due("owes(24, 1)", y.owes(24, 1), 0);
        Check.due("nobody follows", y.after(24, 1, 0), 0);
    }

    private static void putOfEveryThing() {
        HouseTwins x = new HouseTwins();
        int there = 0;
        for (int t = -10; t <= 140; t++) {
            boolean is = t == 0 || t > 0 && t < 64 && t % 8 >= 1 && t % 8 <= 5;
            Check.due("put(1, 4, " + t + ")", x.put(1, 4, t), is ? there : Check.BAD);
            there = is ? t : there;
            Check.due("thing(1, 4)", x.thing(1, 4), there);
        }
        for (int t : new int[] {MIN, MIN + 1, MAX, 257, 65537}) {
            Check.due("put(1, 4, " + t + ")", x.put(1, 4, t), Check.BAD);
        }
    }

    // ---- promises 13 to 15

    private static void matchedIfThereIsSuchAOne() {
        for (int bend = 0; bend <= 6; bend++) {
            HouseTwins x = Check.told("lots 8;bend " + bend + ";");
            Check.due("pairs by " + bend, x.count(1), bend <= 3 ? 5 + bend : 11 - bend);
            for (int i = 0; i < 8; i++) {
                int j = x.match(0, i);
                if (j != Check.NONE) {
                    Check.due("the match's match", x.match(1, j), i);
                }
            }
        }
        // The last that are matched, and the first that are not.
        HouseTwins low = Check.told("lots 8;bend 0;");
        Check.due("match(0, 3)", low.match(0, 3), 0);
        Check.due("match(0, 2)", low.match(0, 2), Check.NONE);
        Check.due("match(1, 4)", low.match(1, 4), 7);
        Check.due("match(1, 5)", low.match(1, 5), Check.NONE);
        HouseTwins high = Check.told("lots 8;bend 6;");
        Check.due("match(0, 4)", high.match(0, 4), 7);
        Check.due("match(0, 5)", high.match(0, 5), Check.NONE);
        Check.due("match(1, 3)", high.match(1, 3), 0);
        Check.due("match(1, 2)", high.match(1, 2), Check.NONE);
        for (int lots = 1; lots <= 3; lots++) {
            for (int bend : new int[] {0, 6}) {
                HouseTwins x = Check.told("lots " + lots + ";bend " + bend + ";");
                Check.due("no pairs", x.count(1), 0);
                Check.due("match of none", x.match(0, 0), Check.NONE);
                Check.due("match of none", x.match(1, lots - 1), Check.NONE);
                Check.due("match of no lot", x.match(0, lots), Check.BAD);
            }
        }
        for (int n : NO_BANKS) {
            Check.due("match of no BANK", low.match(n, 0), Check.BAD);
        }
        for (int i : new int[] {-1, 8, MIN, MIN + 3, MAX, MAX - 3}) {
            Check.due("match(0, " + i + ")", low.match(0, i), Check.BAD);
            Check.due("match(1, " + i + ")", high.match(1, i), Check.BAD);
        }
    }

    private static void evenOfNothing() {
        HouseTwins x = new HouseTwins();
        Check.due("nothing and nothing are even", x.odd(), 0);
        x.put(0, 2, 1);
        Check.due("a THING and nothing are not", x.odd(), 4);
        x.put(0, 2, 0);
        x.put(1, 2, 33);
        Check.due("nothing and a THING are not", x.odd(), 4);
        x.put(0, 2, 1);
        Check.due("the mirror is", x.odd(), 0);
        for (int t = 0; t < 64; t++) {
            boolean is = t == 0 || t % 8 >= 1 && t % 8 <= 5;
            if (is) {
                x.put(1, 2, t);
                Check.due("no other one is: " + t, x.odd(), t == 33 ? 0 : 4);
            }
        }
    }

    private static void oddOfEveryLot() {
        HouseTwins x = Check.told("lots 8;");
        int bits = 0;
        for (int i = 0; i < 8; i++) {
            x.put(i & 1, i, 4);
            bits |= 1 << i;
            Check.due("odd of " + (i + 1) + " LOTS", x.odd(), bits);
        }
        Check.due("odd of all", x.odd(), 255);
        HouseTwins y = Check.told("lots 1;thing 0 0 house 0 left;");
        Check.due("odd of one LOT", y.odd(), 1);
        HouseTwins z = Check.told("lots 3;bend 0;thing 0 0 house 0 left;thing 1 2 shop 0 left;");
        Check.due("no pairs: none is odd", z.odd(), 0);
        // By LOTS of BANK 0, though the THING is on LOT 7 of BANK 1.
        HouseTwins bent = Check.told("lots 8;bend 6;thing 1 7 shop 0 left;thing 1 2 shop 0 left;thing 0 5 shop 0 left;");
        Check.due("odd by a bend", bent.odd(), 1 << 4);
        // THINGS on LOTS that are not MATCHED, at either end of either BANK.
        for (int lots = 1; lots <= 8; lots++) {
            for (int bend = 0; bend <= 6; bend++) {
                HouseTwins alone = Check.told("lots " + lots + ";bend " + bend + ";");
                for (int i = 0; i < lots; i++) {
                    if (i + bend - 3 < 0 || i + bend - 3 >= lots) {
                        alone.put(0, i, 1);
                    }
                    if (i - bend + 3 < 0 || i - bend + 3 >= lots) {
                        alone.put(1, i, 2);
                    }
                }
                Check.due("none is odd: " + lots + ", " + bend, alone.odd(), 0);
                Check.due("never uneven: " + lots + ", " + bend, alone.uneven(1), Check.NONE);
                Check.due("no histories: " + lots + ", " + bend, alone.histories(23), 1);
            }
        }
    }

    private static void thirdBank() {
        HouseTwins x = Check.told("lots 8;bend 0;right shop;paint 0 3;thing 1 0 shop 0 right;thing 1 4 house 3 left;thing 1 7 tower 1 left;");
        Check.due("third(2): no match", x.third(2), Check.NONE);
        Check.due("third(3)", x.third(3), 3 + 24 + 32);
        Check.due("third(4): the mirror of nothing", x.third(4), 0);
        Check.due("third(7)", x.third(7), 1 + 32);
        for (int i : new int[] {-1, 8, MIN, MAX}) {
            Check.due("third(" + i + ")", x.third(i), Check.BAD);
        }
        HouseTwins y = Check.told("lots 2;");
        Check.due("third(1)", y.third(1), 0);
        Check.due("third(2): there is no such LOT", y.third(2), Check.BAD);
    }

    // ---- promises 16 to 19

    private static void monthsOfARun() {
        HouseTwins x = Check.told("thing 0 4 shop 0 left;work 0 0 0 house 0 left;work 23 1 4 tower 0 left;");
        Check.due("after(0, 0, 0): as it is now", x.after(0, 0, 0), 0);
        Check.due("after(0, 0, 4): as it is now", x.after(0, 0, 4), 3);
        Check.due("after(1, 0, 0): month 0 is done", x.after(1, 0, 0), 1);
        Check.due("after(23, 1, 4): month 23 is not", x.after(23, 1, 4), 0);
        Check.due("after(24, 1, 4): month 23 is done", x.after(24, 1, 4), 4);
        Check.due("paid(0, 0)", x.paid(0, 0), 0);
        Check.due("paid(1, 0)", x.paid(1, 0), 5);
        Check.due("paid(23, 1)", x.paid(23, 1), 5);
        Check.due("paid(24, 1)", x.paid(24, 1), 10);
        Check.due("owes(0, 1)", x.owes(0, 1), 0);
        Check.due("owes(1, 1)", x.owes(1, 1), 1);
        Check.due("owes(23, 0)", x.owes(23, 0), 0);
        Check.due("owes(24, 0)", x.owes(24, 0), 16);
        for (int n : new int[] {-1, 25, 26, MIN, MAX}) {
            Check.due("after(" + n + ", 0, 0)", x.after(n, 0, 0), Check.BAD);
            Check.due("paid(" + n + ", 0)", x.paid(n, 0), Check.BAD);
            Check.due("owes(" + n + ", 0)", x.owes(n, 0), Check.BAD);
        }
        for (int b : NO_BANKS) {
            Check.due("after(0, " + b + ", 0)", x.after(0, b, 0), Check.BAD);
            Check.due("paid(0, " + b + ")", x.paid(0, b), Check.BAD);
            Check.due("owes(0, " + b + ")", x.owes(0, b), Check.BAD);
        }
        for (int i : new int[] {-1, 5, 8, MIN, MAX}) {
            Check.due("after(0, 0, " + i + ")", x.after(0, 0, i), Check.BAD);
            Check.due("after(24, 1, " + i + ")", x.after(24, 1, i), Check.BAD);
        }
    }

    private static void barredByItself() {
        for (int b = 0; b < 2; b++) {
            HouseTwins x = Check.told("bend 4;lack " + b + " shop;work 0 " + b + " 2 shop 0 left;work 0 " + b + " " + (b == 0 ? 4 : 0) + " shop 0 left;");
            Check.due("a LOT that is matched", x.fate(0), 2);
            Check.due("a LOT that is not", x.fate(1), 2);
            Check.due("nothing is paid", x.paid(24, b), 0);
            Check.due("nothing is there", x.after(24, b, 2), 0);
            Check.due("nothing is owed", x.owes(24, 1 - b), 0);
        }
    }

    private static void barredByTheOther() {
        for (int b = 0; b < 2; b++) {
            // The other one LACKS the TWIN, not the KIND itself.
            HouseTwins x = Check.told("twin house tower;bend 4;lack " + (1 - b) + " tower;work 0 " + b + " 2 house 0 left;work 0 " + b + " 3 tower 0 left;"
                    + "work 0 " + b + " " + (b == 0 ? 4 : 0) + " house 0 left;");
            Check.due("a LOT that is matched", x.fate(0), 2);
            Check.due("the KIND that the other LACKS", x.fate(1), 0);
            Check.due("a LOT that is not matched", x.fate(2), 0);
        }
    }

    private static void barredAheadOfGivingWay() {
        HouseTwins x = Check.told("lack 1 shop;work 0 0 0 house 0 left;work 0 1 0 shop 0 left;work 0 1 0 tower 0 left;");
        Check.due("both would fit: BARRED", x.fate(1), 2);
        Check.due("GIVES WAY", x.fate(2), 1);
    }

    private static void nothingIsNeverLacked() {
        HouseTwins x = Check.told("lack 0 house;lack 0 garden;lack 0 shop;lack 0 tower;lack 0 shrine;lack 1 house;lack 1 garden;lack 1 shop;"
                + "lack 1 tower;lack 1 shrine;thing 0 0 house 0 left;thing 1 0 house 0 right;work 0 0 0 nothing;work 5 1 1 nothing;");
        Check.due("fate(0)", x.fate(0), 0);
        Check.due("fate(1)", x.fate(1), 0);
        Check.due("the other follows", x.after(2, 1, 0), 0);
        Check.due("paid(24, 0)", x.paid(24, 0), 1);
        Check.due("paid(24, 1)", x.paid(24, 1), 2);
    }

    private static void givesWayInThisMonthAlone() {
        HouseTwins x = Check.told("work 0 0 0 house 0 left;work 1 1 0 shop 0 left;work 1 0 0 tower 0 left;work 1 1 0 garden 0 left;");
        Check.due("an earlier month", x.fate(1), 0);
        Check.due("this month, ahead", x.fate(2), 1);
        Check.due("its own LOT again", x.fate(3), 0);
        Check.due("after(2, 1, 0)", x.after(2, 1, 0), 2);
        Check.due("after(2, 0, 0)", x.after(2, 0, 0), 1);
        Check.due("owes(2, 0)", x.owes(2, 0), 1);
        Check.due("after(3, 0, 0)", x.after(3, 0, 0), 34);
        HouseTwins y = Check.told("work 0 0 0 house 0 left;work 0 1 1 shop 0 left;");
        Check.due("another LOT", y.fate(1), 0);
        HouseTwins bent = Check.told("bend 4;work 0 0 0 house 0 left;work 0 1 0 shop 0 left;work 0 1 1 shop 0 left;");
        Check.due("the same number, another PAIR", bent.fate(1), 0);
        Check.due("the other LOT of the PAIR", bent.fate(2), 1);
    }

    private static void givesWayOnlyIfUneven() {
        for (int t = 1; t < 64; t++) {
            if (t % 8 < 1 || t % 8 > 5) {
                continue;
            }
            HouseTwins x = new HouseTwins();
            x.plot(7, 1, 3, t);
            x.plot(7, 0, 3, 33);
            x.plot(7, 0, 3, 0);
            Check.due("done only if even: " + t, x.fate(1), t == 1 ? 0 : 1);
            Check.due("nothing gives way", x.fate(2), 1);
        }
        // Nothing against nothing is even.
        HouseTwins y = Check.told("thing 0 0 shop 0 left;thing 1 0 tower 0 left;work 0 0 0 nothing;work 0 1 0 nothing;");
        Check.due("fate(1)", y.fate(1), 0);
        Check.due("paid(1, 1)", y.paid(1, 1), 1);
    }

    private static void whatGaveWayWasNotWorkedOn() {
        HouseTwins x = Check.told("work 0 0 0 house 0 left;work 0 1 0 shop 0 left;work 0 0 0 tower 0 left;");
        // Had LOT 0 of BANK 1 been WORKED on, BANK 0 would have given way.
        Check.due("fate(1)", x.fate(1), 1);
        Check.due("fate(2)", x.fate(2), 0);
        Check.due("paid(1, 1): it paid nothing", x.paid(1, 1), 0);
        Check.due("paid(1, 0)", x.paid(1, 0), 10);
        Check.due("it was not the LATEST", x.owes(1, 1), 1);
        Check.due("owes(1, 0)", x.owes(1, 0), 0);
        // One that is BARRED was not WORKED on either: the PAIR is followed up in that month.
        HouseTwins y = Check.told("lack 0 shop;work 0 0 0 house 0 left;work 1 0 0 shop 0 left;");
        Check.due("fate(1)", y.fate(1), 2);
        Check.due("after(2, 1, 0)", y.after(2, 1, 0), 33);
    }

    private static void ownLotTwice() {
        HouseTwins x = Check.told("cost 0 1 2 3 4 5;work 3 0 0 house 0 left;work 3 0 0 garden 0 left;work 3 0 0 nothing;work 3 0 0 shop 0 left;");
        for (int w = 0; w < 4; w++) {
            Check.due("fate(" + w + ")", x.fate(w), 0);
        }
        Check.due("each is paid", x.paid(4, 0), 1 + 2 + 1 + 3);
        Check.due("the last one stands", x.after(4, 0, 0), 3);
        Check.due("one mirror", x.paid(24, 1), 5);
    }

    private static void notMatched() {
        HouseTwins x = Check.told("lots 1;bend 0;lack 1 house;work 0 0 0 house 0 left;work 0 1 0 shop 0 left;work 0 0 0 shop 0 left;");
        for (int w = 0; w < 3; w++) {
            Check.due("fate(" + w + ")", x.fate(w), 0);
        }
        Check.due("nobody follows", x.after(24, 1, 0), 3);
        Check.due("nobody follows", x.after(24, 0, 0), 3);
        Check.due("owes(24, 0)", x.owes(24, 0), 0);
        Check.due("owes(24, 1)", x.owes(24, 1), 0);
        Check.due("never uneven", x.uneven(0), Check.NONE);
        Check.due("paid(24, 0)", x.paid(24, 0), 10);
    }

    private static void paysPullForNothing() {
        for (int pull : new int[] {0, 1, 20}) {
            HouseTwins x = Check.told("pull " + pull + ";thing 0 0 house 0 left;thing 1 0 house 0 right;work 0 0 0 nothing;work 9 0 1 nothing;");
            Check.due("paid(1, 0)", x.paid(1, 0), pull);
            Check.due("who follows pays likewise", x.paid(2, 1), pull);
            Check.due("of nothing nothing: paid all the same", x.paid(24, 0), 2 * pull);
            Check.due("even: nobody follows", x.paid(24, 1), pull);
        }
    }

    private static void endOfAMonth() {
        // WORKED on in months 0, 1, 3: BANK 1 follows at the end of month 2, then of month 4.
        HouseTwins x = Check.told("work 0 0 0 house 0 left;work 1 0 0 shop 0 left;work 3 0 0 tower 0 left;");
        int[] due = {0, 0, 0, 35, 35, 36, 36};
        int[] owed = {0, 1, 1, 0, 1, 0, 0};
        int[] paid = {0, 0, 0, 5, 5, 10, 10};
        for (int n = 0; n < due.length; n++) {
            Check.due("after(" + n + ", 1, 0)", x.after(n, 1, 0), due[n]);
            Check.due("owes(" + n + ", 1)", x.owes(n, 1), owed[n]);
            Check.due("paid(" + n + ", 1)", x.paid(n, 1), paid[n]);
        }
        // Not EVEN ahead of the RUN, never WORKED on: it stays.
        HouseTwins y = Check.told("thing 0 0 house 0 left;work 0 0 1 house 0 left;");
        Check.due("after(24, 1, 0)", y.after(24, 1, 0), 0);
        Check.due("after(24, 1, 1)", y.after(24, 1, 1), 33);
        Check.due("owes(24, 1)", y.owes(24, 1), 0);
    }

    private static void lastMonth() {
        HouseTwins x = Check.told("work 22 0 0 house 0 left;work 23 0 1 house 0 left;");
        Check.due("month 23 still follows up month 22", x.after(24, 1, 0), 33);
        Check.due("none follows up month 23", x.after(24, 1, 1), 0);
        Check.due("owes(23, 1)", x.owes(23, 1), 1);
        Check.due("owes(24, 1)", x.owes(24, 1), 2);
        HouseTwins y = Check.told("work 22 0 0 house 0 left;work 23 0 0 shop 0 left;");
        Check.due("WORKED on in both: none follows", y.after(24, 1, 0), 0);
        Check.due("owes(24, 1)", y.owes(24, 1), 1);
    }

    private static void latestIsWhoWas() {
        // BANK 1 follows BANK 0, which does not make it the LATEST: BANK 1's own WORK does.
        HouseTwins x = Check.told("work 0 0 0 house 0 left;work 5 1 0 nothing;");
        Check.due("after(2, 1, 0)", x.after(2, 1, 0), 33);
        Check.due("owes(6, 0)", x.owes(6, 0), 1);
        Check.due("owes(6, 1)", x.owes(6, 1), 0);
        Check.due("after(7, 0, 0)", x.after(7, 0, 0), 0);
        // Both in a month, the second one making it EVEN: the second one is the LATEST, and nobody owes.
        HouseTwins y = Check.told("work 0 0 0 house 0 left;work 0 1 0 house 0 right;work 2 0 0 shop 0 left;");
        Check.due("owes(1, 0)", y.owes(1, 0), 0);
        Check.due("owes(1, 1)", y.owes(1, 1), 0);
        Check.due("owes(3, 1)", y.owes(3, 1), 1);
        Check.due("after(4, 1, 0)", y.after(4, 1, 0), 35);
    }

    private static void pairsByLotsOfBank0() {
        HouseTwins x = Check.told("lots 8;bend 0;work 0 0 3 house 0 left;work 0 1 4 shop 0 left;work 0 0 2 tower 0 left;work 0 1 5 tower 0 left;");
        Check.due("owes(1, 1): LOT 0 of its own", x.owes(1, 1), 1);
        Check.due("owes(1, 0): LOT 7 of its own", x.owes(1, 0), 128);
        Check.due("after(2, 1, 0)", x.after(2, 1, 0), 33);
        Check.due("after(2, 0, 7)", x.after(2, 0, 7), 35);
        Check.due("paid(24, 0)", x.paid(24, 0), 15);
        Check.due("paid(24, 1)", x.paid(24, 1), 15);
        Check.due("uneven(0)", x.uneven(0), 0);
        Check.due("uneven(1)", x.uneven(1), 3);
    }

    private static void owesAtFirst() {
        HouseTwins x = Check.told("lots 8;thing 0 0 house 0 left;");
        for (int n = 0; n <= 24; n++) {
            Check.due("owes(" + n + ", 0)", x.owes(n, 0), 0);
            Check.due("owes(" + n + ", 1)", x.owes(n, 1), 0);
        }
        // All eight LOTS at once.
        HouseTwins y = Check.told("lots 8;");
        for (int i = 0; i < 8; i++) {
            y.plot(23, 1, i, 1);
        }
        Check.due("owes(24, 0)", y.owes(24, 0), 255);
        Check.due("owes(24, 1)", y.owes(24, 1), 0);
        Check.due("owes(23, 0)", y.owes(23, 0), 0);
    }

    private static void mostThatCanBePaid() {
        HouseTwins x = Check.told("lots 8;cost 0 20 20 20 20 20;cost 1 20 20 20 20 20;pull 20;");
        for (int w = 0; w < 12; w++) {
            x.plot(2 * w, 0, 7, w % 2 == 0 ? 1 : 0);
        }
        Check.due("paid(24, 0): twelve WORKS", x.paid(24, 0), 240);
        Check.due("paid(24, 1): each is followed up", x.paid(24, 1), 240);
        Check.due("go()", x.go(), 12);
    }

    private static void fates() {
        HouseTwins x = new HouseTwins();
        Check.due("fate(0) of none", x.fate(0), Check.BAD);
        for (int w = 0; w < 12; w++) {
            x.plot(23, w & 1, 0, 1);
            Check.due("fate of the last one", x.fate(w), (w & 1) == 0 ? 0 : 1);
            Check.due("fate of no WORK", x.fate(w + 1), Check.BAD);
        }
        for (int w : new int[] {-1, 12, 13, MIN, MAX}) {
            Check.due("fate(" + w + ")", x.fate(w), Check.BAD);
        }
    }

    // ---- promise 20

    private static void uneven() {
        HouseTwins x = new HouseTwins();
        for (int what : new int[] {-1, 2, 3, MIN, MAX}) {
            Check.due("uneven(" + what + ")", x.uneven(what), Check.BAD);
        }
        Check.due("uneven(1): there is none", x.uneven(1), Check.NONE);
        x.put(0, 4, 1);
        Check.due("uneven(0): from the first month on", x.uneven(0), 0);
        Check.due("uneven(1)", x.uneven(1), 4);
        x.put(1, 0, 1);
        Check.due("uneven(1): the first LOT", x.uneven(1), 0);
        // What is not EVEN now, but at the end of month 0, does not count.
        HouseTwins y = Check.told("thing 0 0 house 0 left;work 0 1 0 house 0 right;work 23 0 4 shop 0 left;");
        Check.due("odd()", y.odd(), 1);
        Check.due("uneven(0)", y.uneven(0), 23);
        Check.due("uneven(1)", y.uneven(1), 4);
        HouseTwins z = Check.told("lots 8;work 23 1 7 shop 0 left;");
        Check.due("uneven(0): the last month", z.uneven(0), 23);
        Check.due("uneven(1): the last LOT", z.uneven(1), 7);
        HouseTwins bent = Check.told("lots 8;bend 6;work 4 1 7 shop 0 left;work 4 1 2 shop 0 left;");
        Check.due("uneven(0)", bent.uneven(0), 4);
        Check.due("uneven(1): a LOT of BANK 0", bent.uneven(1), 4);
    }

    // ---- promise 21

    private static void goes() {
        HouseTwins x = new HouseTwins();
        Check.due("go() without WORKS", x.go(), 0);
        x.put(0, 0, 1);
        Check.due("go() without WORKS changes nothing", x.go(), 0);
        Check.due("thing(0, 0)", x.thing(0, 0), 1);
        Check.due("thing(1, 0)", x.thing(1, 0), 0);
        for (int w = 0; w < 12; w++) {
            x.plot(w, 0, 1, w % 5 + 1);
        }
        Check.due("go() of twelve", x.go(), 12);
        Check.due("the last one stands", x.thing(0, 1), 2);
        Check.due("its mirror too", x.thing(1, 1), 34);
        Check.due("no WORKS", x.rule(3), 0);
        for (int n = 1; n <= 12; n++) {
            Check.due("room for twelve again", x.plot(0, 0, 1, 0), n);
        }
        // The RUN of later months is done too: none is followed up twice.
        Check.due("all are done", x.go(), 12);
        Check.due("paid(24, 0) behind go()", x.paid(24, 0), 0);
        HouseTwins y = Check.told("lack 0 shop;work 0 0 0 shop 0 left;work 0 1 0 house 0 left;work 0 0 0 house 0 left;");
        Check.due("go(): neither BARRED nor who GAVE WAY", y.go(), 1);
        Check.due("thing(0, 0)", y.thing(0, 0), 33);
        HouseTwins none = Check.told("lack 0 shop;work 0 0 0 shop 0 left;");
        Check.due("go(): none was done", none.go(), 0);
        Check.due("told no more", none.rule(3), 0);
    }

    // ---- promise 22

    private static void plots() {
        HouseTwins x = new HouseTwins();
        for (int m : new int[] {-1, 24, 25, MIN, MAX}) {
            Check.due("plot(" + m + ", 0, 0, 1)", x.plot(m, 0, 0, 1), Check.BAD);
        }
        Check.due("month 0", x.plot(0, 0, 0, 0), 1);
        Check.due("month 22", x.plot(22, 1, 4, 1), 2);
        Check.due("below it", x.plot(21, 1, 4, 1), Check.BAD);
        Check.due("the same", x.plot(22, 1, 4, 1), 3);
        Check.due("month 23", x.plot(23, 1, 4, 1), 4);
        Check.due("below it", x.plot(22, 1, 4, 1), Check.BAD);
        Check.due("month 24", x.plot(24, 1, 4, 1), Check.BAD);
        for (int b : NO_BANKS) {
            Check.due("plot of no BANK", x.plot(23, b, 0, 1), Check.BAD);
        }
        for (int i : new int[] {-1, 5, 7, 8, MIN, MAX}) {
            Check.due("plot of no LOT", x.plot(23, 0, i, 1), Check.BAD);
            Check.due("plot of no LOT", x.plot(23, 1, i, 1), Check.BAD);
        }
        for (int t = -9; t <= 80; t++) {
            if (t < 0 || t > 63 || t != 0 && (t % 8 == 0 || t % 8 > 5)) {
                Check.due("plot of no THING " + t, x.plot(23, 0, 0, t), Check.BAD);
            }
        }
        for (int n = 5; n <= 12; n++) {
            Check.due("plot " + n, x.plot(23, 0, 0, 61), n);
        }
        Check.due("plot 13", x.plot(23, 0, 0, 61), Check.FULL);
        Check.due("plot 13 again", x.plot(23, 0, 0, 0), Check.FULL);
        Check.due("BAD comes first", x.plot(22, 0, 0, 0), Check.BAD);
        // Behind a text or an IMAGE, the last one is theirs.
        x.keep(0);
        x.go();
        Check.due("from month 0 again", x.plot(0, 0, 0, 0), 1);
        x.back(0);
        Check.due("full again", x.plot(23, 0, 0, 61), Check.FULL);
        Check.due("below the IMAGE's last one", x.plot(0, 0, 0, 0), Check.BAD);
        Check.tell(x, "work 7 0 0 nothing;");
        Check.due("below the text's last one", x.plot(6, 0, 0, 0), Check.BAD);
        Check.due("as the text's last one", x.plot(7, 0, 0, 0), 2);
        // What is lacked may be plotted: it is BARRED in the RUN.
        HouseTwins y = Check.told("lack 0 shop;");
        Check.due("plot of what is lacked", y.plot(0, 0, 0, 3), 1);
        Check.due("fate(0)", y.fate(0), 2);
    }
}

/** Promises 11 to 15: what there is. */
public final class ThingsTest {
    public static void main(String[] args) {
        putAndThing();
        matches();
        odd();
        third();
        Check.finish("ThingsTest");
    }

    private static void putAndThing() {
        HouseTwins x = Check.told("lots 3;thing 1 2 tower 3 right;work 4 0 0 house 0 left;");
        Check.due("thing(1, 2)", x.thing(1, 2), 4 + 24 + 32);
        Check.due("put(1, 2, 1)", x.put(1, 2, 1), 60);
        Check.due("put(1, 2, 0)", x.put(1, 2, 0), 1);
        Check.due("thing(1, 2)", x.thing(1, 2), 0);
        Check.due("put(0, 0, 61)", x.put(0, 0, 61), 0);
        Check.due("thing(0, 0)", x.thing(0, 0), 61);
        int[][] lots = {{-1, 0}, {2, 0}, {0, -1}, {0, 3}, {1, 7}, {1, Integer.MAX_VALUE}, {Integer.MIN_VALUE, 0}};
        for (int[] lot : lots) {
            Check.due("thing of no lot", x.thing(lot[0], lot[1]), Check.BAD);
            Check.due("put on no lot", x.put(lot[0], lot[1], 1), Check.BAD);
            Check.due("match of no lot", x.match(lot[0], lot[1]), Check.BAD);
        }
        for (int thing : new int[] {-1, 6, 7, 8, 32, 38, 64, 65, Integer.MAX_VALUE, Integer.MIN_VALUE}) {
            Check.due("put of no thing " + thing, x.put(0, 0, thing), Check.BAD);
        }
        Check.due("refused: nothing changed", x.thing(0, 0), 61);
        Check.due("nobody worked", x.rule(3), 1);
    }

    private static void matches() {
        for (int bend = 0; bend <= 6; bend++) {
            for (int lots = 1; lots <= 8; lots++) {
                HouseTwins x = Check.told("lots " + lots + ";bend " + bend + ";");
                int pairs = 0;
                for (int i = 0; i < lots; i++) {
                    int j = i + bend - 3;
                    boolean is = j >= 0 && j < lots;
                    pairs += is ? 1 : 0;
                    Check.due("match(0, " + i + ")", x.match(0, i), is ? j : Check.NONE);
                    int back = i - bend + 3;
                    Check.due("match(1, " + i + ")", x.match(1, i), back >= 0 && back < lots ? back : Check.NONE);
                }
                Check.due("pairs", x.count(1), pairs);
            }
        }
    }

    private static void odd() {
        HouseTwins x = Check.told("lots 8;bend 4;thing 0 0 house 0 left;thing 1 1 house 0 right;thing 0 2 house 0 left;"
                + "thing 1 3 house 0 left;thing 1 7 shop 1 left;thing 0 7 shop 1 left;thing 1 0 shop 0 left;");
        // LOT 0 is even, LOT 2 is not (its door), LOT 6 is not (nothing across), LOT 7 has no match.
        Check.due("odd()", x.odd(), 1 << 2 | 1 << 6);
        x.put(1, 3, 33);
        Check.due("odd()", x.odd(), 1 << 6);
        x.put(0, 6, 3 + 8 + 32);
        Check.due("odd()", x.odd(), 0);
        x.put(1, 1, 33 + 8);
        Check.due("odd() by a colour", x.odd(), 1);
    }

    private static void third() {
        HouseTwins x = Check.told("lots 4;bend 2;paint 0 1;thing 1 0 house 0 left;thing 0 0 tower 0 left;thing 0 1 shop 0 left;");
        Check.due("third(0): no match", x.third(0), Check.NONE);
        Check.due("third(1): mirror of what is on 0 of BANK 1", x.third(1), 1 + 8 + 32);
        Check.due("third(2): of nothing", x.third(2), 0);
        Check.due("third(-1)", x.third(-1), Check.BAD);
        Check.due("third(4)", x.third(4), Check.BAD);
    }
}

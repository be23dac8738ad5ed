/** Promises 31 to 34: fires, bends, shops. */
public final class LossesTest {
    public static void main(String[] args) {
        fires();
        quarrels();
        bends();
        shops();
        Check.finish("LossesTest");
    }

    private static void dueFire(HouseTwins x, int b, int i, int again, int cost) {
        Check.due("fire(" + b + ", " + i + ", 0)", x.fire(b, i, 0), again);
        Check.due("fire(" + b + ", " + i + ", 1)", x.fire(b, i, 1), cost);
    }

    private static void fires() {
        HouseTwins x = Check.told("bend 4;pull 2;twin house garden;cost 0 10 11 12 13 14;cost 1 9 9 9 9 9;taste 0 4 3 20 0 0;taste 1 1 5 20 0 0;"
                + "thing 0 0 house 0 left;thing 1 1 garden 0 right;thing 0 4 house 0 left;thing 0 1 shrine 0 left;thing 0 2 shop 0 left;");
        // A house: 10, or PULL 2, 4 for it and 5 for the garden across: 11.
        dueFire(x, 0, 0, 1, 10);
        // The garden: 9, or 2, 5 and 4: 11.
        dueFire(x, 1, 1, 1, 9);
        x.put(0, 0, 4);
        // A tower: 13, or 2, 0 and 5.
        dueFire(x, 0, 0, 0, 7);
        // Not matched: 10, or 4 alone.
        dueFire(x, 0, 4, 0, 4);
        // A shrine: 14, or 2, 0 and 0, for nothing across.
        dueFire(x, 0, 1, 0, 2);
        // A shop: 12, or 22.
        dueFire(x, 0, 2, 1, 12);
        Check.due("fire on nothing", x.fire(0, 3, 0), Check.STATE);
        Check.due("fire on nothing", x.fire(1, 0, 1), Check.STATE);
        Check.due("fire changes nothing", x.thing(0, 0), 4);
        Check.due("no dearer: built again", Check.told("cost 0 4 0 0 0 0;thing 0 0 house 0 left;").fire(0, 0, 0), 1);
        Check.due("dearer: pulled down", Check.told("cost 0 5 0 0 0 0;thing 0 0 house 0 left;").fire(0, 0, 0), 0);
        int[][] bad = {{-1, 0, 0}, {2, 0, 0}, {0, -1, 0}, {0, 5, 0}, {0, 0, -1}, {0, 0, 2}, {0, 3, 2}, {0, Integer.MAX_VALUE, 0}};
        for (int[] n : bad) {
            Check.due("fire that is bad", x.fire(n[0], n[1], n[2]), Check.BAD);
        }
    }

    private static void quarrels() {
        HouseTwins x = Check.told("lots 3;bend 0;thing 0 0 house 0 left;thing 1 0 house 0 right;thing 1 2 shop 0 left;thing 0 1 shop 0 right;");
        // 0: no pairs, four things. 3: LOT 1 and LOT 2 odd. 4: LOT 0 odd, LOT 1 even, LOT 0 of BANK 1 alone.
        int[] due = {4, 4, 3, 2, 2, 3, 4};
        for (int bend = 0; bend <= 6; bend++) {
            Check.due("quarrel(" + bend + ")", x.quarrel(bend), due[bend]);
        }
        Check.due("bend()", x.bend(), 3);
        Check.due("quarrel(-1)", x.quarrel(-1), Check.BAD);
        Check.due("quarrel(7)", x.quarrel(7), Check.BAD);
        Check.due("nothing bent", x.rule(1), 0);
    }

    private static void bends() {
        Check.due("bend() of nothing", new HouseTwins().bend(), 0);
        HouseTwins x = Check.told("lots 8;thing 0 1 house 0 left;thing 1 4 house 0 right;");
        Check.due("bend()", x.bend(), 6);
        Check.due("rule(1)", x.rule(1), 3);
        x = Check.told("lots 8;bend 6;thing 0 5 house 0 left;thing 1 4 house 0 right;");
        Check.due("bend()", x.bend(), 2);
    }

    private static void shops() {
        HouseTwins x = Check.told("lots 8;");
        int[][] due = {{0, 0, 0}, {1, 0, 0}, {3, 3, 1}, {5, 0, 0}, {7, 7, 1}, {15, 15, 2}, {255, 255, 4}, {0b11011011, 0b11011011, 3},
            {0b10110101, 0b00110000, 1}, {0b11111011, 0b11111011, 3}, {0b11000000, 0b11000000, 1}};
        for (int[] row : due) {
            for (int i = 0; i < 8; i++) {
                x.put(1, i, (row[0] >> i & 1) != 0 ? 3 + 8 * (i & 3) : (i & 1) == 0 ? 0 : 1);
            }
            Check.due("shops(1, 0) of " + row[0], x.shops(1, 0), row[1]);
            Check.due("shops(1, 1) of " + row[0], x.shops(1, 1), row[2]);
            Check.due("shops(0, 0)", x.shops(0, 0), 0);
        }
        for (int n : new int[] {-1, 2, Integer.MIN_VALUE, Integer.MAX_VALUE}) {
            Check.due("shops(" + n + ", 0)", x.shops(n, 0), Check.BAD);
            Check.due("shops(0, " + n + ")", x.shops(0, n), Check.BAD);
        }
    }
}

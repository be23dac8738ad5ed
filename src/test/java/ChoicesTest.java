/** Promises 23 to 26: to begin or to wait. */
public final class ChoicesTest {
    public static void main(String[] args) {
        gains();
        begins();
        waits();
        vexes();
        vexTies();
        wrongNumbers();
        Check.finish("ChoicesTest");
    }

    private static void gains() {
        HouseTwins x = Check.told("cost 0 1 2 3 4 5;taste 0 9 8 7 6 20;cost 1 0 0 0 0 20;taste 1 20 0 0 0 0;thing 0 1 tower 2 right;thing 1 0 house 0 left;");
        Check.due("gain(0, 0, 1)", x.gain(0, 0, 1), 1008);
        Check.due("gain(0, 0, 5)", x.gain(0, 0, 5), 1015);
        Check.due("gain(0, 1, 1): less what is there", x.gain(0, 1, 1), 1002);
        Check.due("gain(0, 1, 4): of the same", x.gain(0, 1, 4), 996);
        Check.due("gain(1, 0, 5)", x.gain(1, 0, 5), 960);
    }

    private static void begins() {
        HouseTwins x = Check.told("cost 0 1 1 1 1 1;taste 0 4 6 6 7 7;lack 0 shrine;lack 1 house;twin house tower;bend 2;");
        // The tower's twin is lacked across: but LOT 0 has no match.
        Check.due("begin(0, 0, 0)", x.begin(0, 0, 0), 4);
        Check.due("begin(0, 0, 1)", x.begin(0, 0, 1), 6);
        Check.due("begin(0, 1, 0): of several the least", x.begin(0, 1, 0), 2);
        Check.due("begin(0, 1, 1)", x.begin(0, 1, 1), 5);
        x.put(0, 1, 2);
        Check.due("begin(0, 1, 0): none above 0", x.begin(0, 1, 0), Check.NONE);
        Check.due("begin(0, 1, 1)", x.begin(0, 1, 1), Check.NONE);
        Check.due("begin(1, 1, 0): by its own law", x.begin(1, 1, 0), Check.NONE);
        x = Check.told("cost 0 3 3 3 3 3;");
        Check.due("begin with a gain of 0", x.begin(0, 0, 0), Check.NONE);
        x = Check.told("cost 0 2 2 2 2 2;");
        Check.due("begin with a gain of 1", x.begin(0, 0, 1), 1);
    }

    private static void waits() {
        HouseTwins x = Check.told("bend 4;cost 1 0 9 9 9 9;twin house shrine;cost 0 9 9 9 9 20;taste 0 9 9 9 9 8;thing 0 1 tower 0 left;");
        Check.due("waits(0, 4)", x.waits(0, 4), Check.STATE);
        Check.due("waits(1, 0)", x.waits(1, 0), Check.STATE);
        // BANK 1 begins with a house: its twin, a shrine, brings 8 less 20 (less 9 for the tower).
        Check.due("waits(0, 0)", x.waits(0, 0), 988);
        Check.due("waits(0, 1)", x.waits(0, 1), 979);
        Check.due("waits(1, 1): BANK 0 does not begin", x.waits(1, 1), 1000);
        x = Check.told("cost 0 0 9 9 9 9;twin house shrine;cost 1 5 5 5 5 0;taste 1 5 5 5 5 4;");
        Check.due("waits(1, 0)", x.waits(1, 0), 1004);
    }

    private static void vexes() {
        HouseTwins x = Check.told("cost 1 1 2 3 4 5;taste 1 9 8 7 6 5;thing 1 3 house 0 left;thing 0 3 shrine 0 left;");
        // Across: 1-9, 2-8, 3-7, 4-6, 5-5; on LOT 3 9 more, but a shrine is there already.
        Check.due("vex(0, 0)", x.vex(0, 0), 1007);
        Check.due("vex(0, 1)", x.vex(0, 1), 3);
        Check.due("vex(0, 2)", x.vex(0, 2), 4);
        // Of another colour it is the same KIND.
        x.put(0, 3, 5 + 8);
        Check.due("vex(0, 2)", x.vex(0, 2), 4);
        x.put(0, 3, 0);
        Check.due("vex(0, 0)", x.vex(0, 0), 1009);
        Check.due("vex(0, 2)", x.vex(0, 2), 5);
        x = Check.told("cost 1 0 0 0 0 0;taste 1 20 19 18 17 16;");
        Check.due("vex below 0", x.vex(0, 0), 984);
        Check.due("vex(0, 2)", x.vex(0, 2), 5);
        x = Check.told("lots 1;lack 0 house;lack 0 garden;lack 0 shop;lack 0 tower;");
        Check.due("vex(0, 2): the shrine alone", x.vex(0, 2), 5);
        Check.due("vex(1, 2): as BANK 0 lacks the rest", x.vex(1, 2), 5);
        x.put(0, 0, 5);
        Check.due("vex(0, 0): it is there already", x.vex(0, 0), Check.NONE);
        Check.due("vex(1, 0)", x.vex(1, 0), 1005);
        x = Check.told("lots 3;bend 0;");
        Check.due("vex without pairs", x.vex(0, 0), Check.NONE);
        Check.due("vex without pairs", x.vex(1, 1), Check.NONE);
        x = Check.told("lots 3;bend 5;");
        Check.due("vex(0, 1): the first that is matched", x.vex(0, 1), 0);
        Check.due("vex(1, 1): the first that is matched", x.vex(1, 1), 2);
    }

    private static void vexTies() {
        HouseTwins x = Check.told("cost 0 9 7 8 7 9;thing 0 0 garden 0 left;thing 0 1 garden 0 left;");
        // All vex the same: the least COST for BANK 0 is 7, on LOT 0 of the tower alone.
        Check.due("vex(0, 0)", x.vex(0, 0), 1002);
        Check.due("vex(0, 1)", x.vex(0, 1), 0);
        Check.due("vex(0, 2)", x.vex(0, 2), 4);
        x.put(0, 0, 4);
        Check.due("vex(0, 2)", x.vex(0, 2), 2);
        x = Check.told("cost 0 9 7 8 9 9;thing 0 0 garden 0 left;");
        Check.due("vex(0, 1): COST ahead of LOT", x.vex(0, 1), 1);
        Check.due("vex(0, 2)", x.vex(0, 2), 2);
    }

    private static void wrongNumbers() {
        HouseTwins x = Check.told("cost 0 0 0 0 0 0;");
        int[][] lots = {{-1, 0}, {2, 0}, {0, -1}, {0, 5}, {1, Integer.MAX_VALUE}, {Integer.MIN_VALUE, 0}};
        for (int[] lot : lots) {
            Check.due("gain of no lot", x.gain(lot[0], lot[1], 1), Check.BAD);
            Check.due("begin of no lot", x.begin(lot[0], lot[1], 0), Check.BAD);
            Check.due("waits of no lot", x.waits(lot[0], lot[1]), Check.BAD);
        }
        for (int n : new int[] {-1, 6, Integer.MIN_VALUE, Integer.MAX_VALUE}) {
            Check.due("gain(0, 0, " + n + ")", x.gain(0, 0, n), Check.BAD);
            Check.due("begin(0, 0, " + n + ")", x.begin(0, 0, n), Check.BAD);
            Check.due("vex(0, " + n + ")", x.vex(0, n), Check.BAD);
            Check.due("vex(" + n + ", 0)", x.vex(n, 0), Check.BAD);
        }
        Check.due("gain(0, 0, 0)", x.gain(0, 0, 0), Check.BAD);
        Check.due("begin(0, 0, 2)", x.begin(0, 0, 2), Check.BAD);
        Check.due("vex(2, 0)", x.vex(2, 0), Check.BAD);
        Check.due("vex(0, 3)", x.vex(0, 3), Check.BAD);
    }
}

/** Promises 27 to 30: wants. */
public final class WantsTest {
    public static void main(String[] args) {
        wants();
        plans();
        planTies();
        cannot();
        Check.finish("WantsTest");
    }

    private static void wants() {
        HouseTwins x = Check.told("lots 3;");
        Check.due("want(3, 1)", x.want(3, 1), Check.BAD);
        Check.due("want(-1, 1)", x.want(-1, 1), Check.BAD);
        Check.due("want(0, 0)", x.want(0, 0), Check.BAD);
        Check.due("want(0, 6)", x.want(0, 6), Check.BAD);
        Check.due("content() of none", x.content(), 0);
        for (int n = 1; n <= 6; n++) {
            Check.due("want " + n, x.want(2, 5), n);
        }
        Check.due("want 7", x.want(2, 5), Check.FULL);
        Check.due("want 7 that is bad", x.want(3, 5), Check.BAD);
        Check.due("count(2)", x.count(2), 6);
        Check.due("content()", x.content(), 6);
        Check.due("count(2)", x.count(2), 0);
        Check.due("want anew", x.want(0, 1), 1);
    }

    private static void duePlan(HouseTwins x, int month, int cost, int... months) {
        Check.due("plan(" + month + ", 0)", x.plan(month, 0), cost);
        for (int j = 0; j < months.length; j++) {
            Check.due("plan(" + month + ", 1" + j + ")", x.plan(month, 10 + j), months[j]);
        }
        Check.due("no such want", x.plan(month, 10 + months.length), Check.BAD);
    }

    private static void plans() {
        HouseTwins x = Check.told("price 4 3 1 2;cost 0 1 2 3 4 5;cost 1 10 9 8 7 6;twin house garden;");
        Check.due("plan without wants", x.plan(0, 0), Check.STATE);
        Check.due("plan that is bad without wants", x.plan(4, 0), Check.BAD);
        x.want(0, 1);
        duePlan(x, 0, 1 + 9, 2);
        duePlan(x, 3, 1 + 9, 6);
        x.want(0, 2);
        x.want(4, 5);
        duePlan(x, 0, 10 + 12 + 11, 2, 6, 10);
        x.want(3, 3);
        // A house 10, a garden 12, a shrine 11, a shop 11: the house goes where it is dearer.
        duePlan(x, 0, 20 + 12 + 11 + 11, 3, 2, 6, 10);
        duePlan(x, 3, 20 + 12 + 11 + 11, 3, 6, 10, 14);
        x.want(0, 1);
        x.want(0, 1);
        duePlan(x, 1, 20 + 12 + 11 + 11 + 20 + 20, 3, 2, 6, 10, 7, 11);
        for (int n : new int[] {-1, 4, Integer.MIN_VALUE, Integer.MAX_VALUE}) {
            Check.due("plan(" + n + ", 0)", x.plan(n, 0), Check.BAD);
            Check.due("plan(0, " + n + ")", x.plan(0, n), Check.BAD);
        }
        for (int what : new int[] {1, 9, 16}) {
            Check.due("plan(0, " + what + ")", x.plan(0, what), Check.BAD);
        }
        x.content();
        Check.due("plan behind content()", x.plan(0, 0), Check.STATE);
    }

    private static void planTies() {
        HouseTwins x = Check.told("price 2 2 2 2;");
        x.want(0, 1);
        x.want(0, 2);
        x.want(0, 1);
        duePlan(x, 1, 60, 1, 2, 3);
        // Those that cost nothing may stand anywhere: want by want as early as the least sum lets them.
        x = Check.told("price 1 9 9 9;cost 0 0 5 5 5 5;cost 1 0 5 5 5 5;");
        x.want(0, 1);
        x.want(0, 2);
        x.want(0, 2);
        x.want(0, 2);
        duePlan(x, 0, 30, 1, 0, 4, 8);
        x = Check.told("price 1 9 9 9;cost 0 0 5 5 5 5;cost 1 0 5 5 5 5;");
        x.want(0, 1);
        x.want(0, 1);
        x.want(0, 2);
        duePlan(x, 0, 10, 0, 1, 4);
        duePlan(x, 1, 10, 1, 2, 4);
        // No more than three months of the twelve have the same price.
        x = Check.told("price 9 9 9 1;");
        x.want(0, 1);
        x.want(0, 2);
        x.want(0, 3);
        x.want(0, 4);
        duePlan(x, 0, 30 + 90, 0, 3, 7, 11);
        x = Check.told("price 1 9 9 9;");
        x.want(0, 1);
        x.want(0, 2);
        x.want(0, 3);
        x.want(0, 4);
        duePlan(x, 2, 30 + 90, 2, 4, 8, 12);
        x = Check.told("lack 0 house;lack 1 house;bend 0;lots 1;");
        x.want(0, 1);
        duePlan(x, 2, 10, 2);
    }

    private static void cannot() {
        HouseTwins x = Check.told("lack 0 house;lack 1 garden;lack 1 shop;twin shop tower;cost 1 3 1 2 9 4;");
        Check.due("cannot(0) without wants", x.cannot(0), 0);
        Check.due("cannot(1) without wants", x.cannot(1), 0);
        x.want(0, 1);
        Check.due("cannot(0): BANK 0 lacks it", x.cannot(0), 1 << 1);
        Check.due("cannot(1): BANK 1 does not", x.cannot(1), 0);
        x.want(0, 2);
        Check.due("cannot(0)", x.cannot(0), 1 << 1 | 1 << 2);
        Check.due("cannot(1): a house is the cheapest", x.cannot(1), 3);
        x.want(0, 3);
        Check.due("cannot(0): the twin is not lacked", x.cannot(0), 1 << 1 | 1 << 2);
        x.want(0, 4);
        x.want(1, 4);
        Check.due("cannot(0)", x.cannot(0), 1 << 1 | 1 << 2 | 1 << 4);
        Check.due("cannot(1): each time", x.cannot(1), 9);
        for (int n : new int[] {-1, 2, Integer.MIN_VALUE, Integer.MAX_VALUE}) {
            Check.due("cannot(" + n + ")", x.cannot(n), Check.BAD);
        }
        x = Check.told("lack 1 house;lack 1 garden;lack 1 shop;lack 1 tower;lack 1 shrine;");
        Check.due("cannot(1): it lacks all", x.cannot(1), Check.NONE);
        x.want(0, 1);
        Check.due("cannot(1): it lacks all", x.cannot(1), Check.NONE);
        Check.due("cannot(0)", x.cannot(0), 1 << 1);
    }
}

/** Promises 16 to 22: runs. */
public final class RunsTest {
    public static void main(String[] args) {
        givingWayAndFollowing();
        theLatestStays();
        barred();
        withoutAMatch();
        byABend();
        whatWasOddAhead();
        uneven();
        goes();
        plots();
        wrongNumbers();
        Check.finish("RunsTest");
    }

    private static void dueRow(String name, int[] got, int... want) {
        for (int n = 0; n < want.length; n++) {
            Check.due(name + " [" + n + "]", got[n], want[n]);
        }
    }

    private static int[] afters(HouseTwins x, int b, int i) {
        int[] row = new int[25];
        for (int n = 0; n < 25; n++) {
            row[n] = x.after(n, b, i);
        }
        return row;
    }

    private static int[] paids(HouseTwins x, int b) {
        int[] row = new int[25];
        for (int n = 0; n < 25; n++) {
            row[n] = x.paid(n, b);
        }
        return row;
    }

    private static int[] owed(HouseTwins x, int b) {
        int[] row = new int[25];
        for (int n = 0; n < 25; n++) {
            row[n] = x.owes(n, b);
        }
        return row;
    }

    private static void dueFates(HouseTwins x, int... want) {
        for (int w = 0; w < want.length; w++) {
            Check.due("fate(" + w + ")", x.fate(w), want[w]);
        }
        Check.due("fate(" + want.length + ")", x.fate(want.length), Check.BAD);
    }

    private static void givingWayAndFollowing() {
        HouseTwins x = Check.told("cost 0 2 3 4 5 6;cost 1 7 8 9 10 11;pull 1;work 0 0 0 house 0 left;work 0 1 0 house 0 left;"
                + "work 0 1 0 house 0 right;work 2 0 0 nothing;work 2 0 1 shop 1 left;work 2 0 1 tower 1 left;");
        // The second gives way: the pair would not be even; the third makes it even; one's own work may be done anew.
        dueFates(x, 0, 1, 0, 0, 0, 0);
        dueRow("after 0 0", afters(x, 0, 0), 0, 1, 1, 0, 0, 0);
        dueRow("after 1 0", afters(x, 1, 0), 0, 33, 33, 33, 0, 0);
        dueRow("after 0 1", afters(x, 0, 1), 0, 0, 0, 12, 12);
        dueRow("after 1 1", afters(x, 1, 1), 0, 0, 0, 0, 44, 44);
        dueRow("paid 0", paids(x, 0), 0, 2, 2, 12, 12, 12);
        dueRow("paid 1", paids(x, 1), 0, 7, 7, 7, 18, 18);
        dueRow("owes 0", owed(x, 0), 0, 0, 0, 0, 0);
        dueRow("owes 1", owed(x, 1), 0, 0, 0, 3, 0);
        Check.due("a run changes nothing", x.count(0), 0);
        Check.due("a run leaves the works", x.rule(3), 6);
    }

    private static void theLatestStays() {
        // BANK 0 works, BANK 1 follows in the next month; then BANK 1 works: BANK 0 follows, though BANK 1 had followed.
        HouseTwins x = Check.told("work 0 0 2 house 0 left;work 4 1 2 shop 0 left;work 5 0 2 shrine 0 left;"
                + "work 23 1 2 nothing;");
        dueFates(x, 0, 0, 0, 0);
        dueRow("after 0 2", afters(x, 0, 2), 0, 1, 1, 1, 1, 1, 5, 5);
        dueRow("after 1 2", afters(x, 1, 2), 0, 0, 33, 33, 33, 3, 3, 37, 37);
        dueRow("owes 0", owed(x, 0), 0, 0, 0, 0, 0, 4, 0, 0);
        dueRow("owes 1", owed(x, 1), 0, 4, 0, 0, 0, 0, 4, 0);
        Check.due("after(23, 1, 2)", x.after(23, 1, 2), 37);
        Check.due("after(24, 1, 2)", x.after(24, 1, 2), 0);
        Check.due("after(24, 0, 2): it still owes", x.after(24, 0, 2), 5);
        Check.due("owes(24, 0)", x.owes(24, 0), 4);
        Check.due("paid(24, 0)", x.paid(24, 0), 10);
        Check.due("paid(24, 1)", x.paid(24, 1), 5 + 5 + 5 + 1);
        // Worked on in every month: nobody follows until a month goes by.
        x = Check.told("work 0 0 0 house 0 left;work 1 0 0 shop 0 left;work 2 0 0 tower 0 left;");
        dueRow("after 1 0", afters(x, 1, 0), 0, 0, 0, 0, 36, 36);
        dueRow("owes 1", owed(x, 1), 0, 1, 1, 1, 0);
    }

    private static void barred() {
        HouseTwins x = Check.told("bend 4;lack 0 shop;lack 1 tower;twin house tower;work 0 0 0 shop 0 left;work 0 0 1 house 0 left;"
                + "work 0 1 1 tower 0 left;work 0 1 2 shop 0 left;work 0 0 4 house 0 left;work 0 1 0 shop 0 left;work 0 0 4 shop 0 left;"
                + "work 1 0 2 tower 0 left;work 1 1 3 nothing;");
        // By itself; by the other's twin; by itself; by the other's twin; no match: done; no match: done; by itself;
        // a tower, whose twin is a house: done; nothing across from it gives way.
        dueFates(x, 2, 2, 2, 2, 0, 0, 2, 0, 1);
        Check.due("paid(1, 0)", x.paid(1, 0), 5);
        Check.due("paid(1, 1)", x.paid(1, 1), 5);
        Check.due("after(1, 0, 1): barred, not done", x.after(1, 0, 1), 0);
        HouseTwins y = Check.told("lack 1 shop;work 0 0 0 shop 0 left;work 0 1 0 house 0 left;");
        dueFates(y, 2, 0);
        Check.due("what is barred was not worked on", y.after(1, 1, 0), 1);
    }

    private static void withoutAMatch() {
        HouseTwins x = Check.told("bend 6;work 0 0 2 house 0 left;work 0 0 2 shop 0 left;work 0 1 2 shop 0 left;");
        dueFates(x, 0, 0, 0);
        dueRow("after 0 2", afters(x, 0, 2), 0, 3, 3, 3);
        dueRow("owes 0", owed(x, 0), 0, 0, 0);
        dueRow("owes 1", owed(x, 1), 0, 0, 0);
        Check.due("uneven(0)", x.uneven(0), Check.NONE);
        Check.due("paid(24, 0)", x.paid(24, 0), 10);
    }

    private static void byABend() {
        HouseTwins x = Check.told("lots 8;bend 5;work 1 0 1 house 0 left;work 2 1 7 shop 0 left;");
        Check.due("owes(2, 1): its own lot", x.owes(2, 1), 1 << 3);
        Check.due("owes(2, 0)", x.owes(2, 0), 0);
        Check.due("owes(3, 0): its own lot", x.owes(3, 0), 1 << 5);
        Check.due("owes(3, 1)", x.owes(3, 1), 0);
        Check.due("after(3, 1, 3)", x.after(3, 1, 3), 33);
        Check.due("after(4, 0, 5)", x.after(4, 0, 5), 35);
        Check.due("uneven(0)", x.uneven(0), 1);
        Check.due("uneven(1)", x.uneven(1), 1);
    }

    private static void whatWasOddAhead() {
        HouseTwins x = Check.told("thing 0 0 house 0 left;thing 0 1 shop 0 left;work 3 1 1 tower 0 right;");
        // LOT 0 was never worked on in the run: nobody owes it.
        Check.due("after(24, 1, 0)", x.after(24, 1, 0), 0);
        Check.due("owes(24, 1)", x.owes(24, 1), 0);
        Check.due("after(3, 1, 1)", x.after(3, 1, 1), 0);
        Check.due("owes(4, 0)", x.owes(4, 0), 2);
        Check.due("after(5, 0, 1)", x.after(5, 0, 1), 4);
        // The same thing as was there is paid all the same; one that is even is followed by none.
        HouseTwins y = Check.told("thing 0 0 house 0 left;thing 1 0 house 0 right;work 0 0 0 house 0 left;");
        Check.due("paid(24, 0)", y.paid(24, 0), 5);
        Check.due("paid(24, 1)", y.paid(24, 1), 0);
        Check.due("uneven(0)", y.uneven(0), Check.NONE);
        Check.due("uneven(1)", y.uneven(1), Check.NONE);
    }

    private static void uneven() {
        HouseTwins x = Check.told("work 7 0 3 house 0 left;work 7 1 1 house 0 left;");
        Check.due("uneven(0)", x.uneven(0), 7);
        Check.due("uneven(1)", x.uneven(1), 1);
        x.put(0, 4, 1);
        Check.due("uneven(0)", x.uneven(0), 0);
        Check.due("uneven(1)", x.uneven(1), 4);
        x = Check.told("work 23 0 3 house 0 left;");
        Check.due("uneven(0)", x.uneven(0), 23);
        Check.due("uneven(1)", x.uneven(1), 3);
        // What comes to be even within one month was never uneven at an end.
        x = Check.told("work 5 0 3 house 0 left;work 5 1 3 house 0 right;");
        Check.due("uneven(0)", x.uneven(0), Check.NONE);
        for (int what : new int[] {-1, 2, Integer.MAX_VALUE}) {
            Check.due("uneven(" + what + ")", x.uneven(what), Check.BAD);
        }
    }

    private static void goes() {
        HouseTwins x = Check.told("lack 0 shop;work 0 0 0 house 0 left;work 0 1 0 house 0 left;work 1 0 1 shop 0 left;"
                + "work 5 0 2 tower 0 left;work 23 0 3 shrine 0 left;");
        x.want(0, 1);
        x.saw(0, 0, 0, true);
        x.keep(0);
        Check.due("go()", x.go(), 3);
        Check.due("no works", x.rule(3), 0);
        Check.due("fate(0)", x.fate(0), Check.BAD);
        int[][] things = {{1, 0, 4, 5, 0}, {33, 0, 36, 0, 0}};
        for (int b = 0; b < 2; b++) {
            for (int i = 0; i < 5; i++) {
                Check.due("thing(" + b + ", " + i + ")", x.thing(b, i), things[b][i]);
            }
        }
        Check.due("wants stay", x.count(2), 1);
        Check.due("seen stays", x.count(3), 1);
        Check.due("images stay", x.count(4), 1);
        Check.due("go() without works", x.go(), 0);
        Check.due("the latest is of one run alone", x.thing(1, 3), 0);
        Check.due("plot from month 0 again", x.plot(0, 0, 0, 0), 1);
    }

    private static void plots() {
        HouseTwins x = Check.told("work 4 0 0 nothing;");
        Check.due("plot below the last", x.plot(3, 0, 0, 1), Check.BAD);
        Check.due("plot(4, ..)", x.plot(4, 1, 4, 61), 2);
        Check.due("plot(24, ..)", x.plot(24, 1, 4, 61), Check.BAD);
        Check.due("plot of no lot", x.plot(4, 1, 5, 61), Check.BAD);
        Check.due("plot of no bank", x.plot(4, 2, 0, 61), Check.BAD);
        Check.due("plot of no thing", x.plot(4, 1, 0, 6), Check.BAD);
        Check.due("plot of nothing", x.plot(6, 1, 0, 0), 3);
        for (int n = 4; n <= 12; n++) {
            Check.due("plot " + n, x.plot(23, 0, 0, 1), n);
        }
        Check.due("plot 13", x.plot(23, 0, 0, 1), Check.FULL);
        Check.due("plot 13 that is bad", x.plot(22, 0, 0, 1), Check.BAD);
        Check.due("rule(3)", x.rule(3), 12);
        Check.due("work(1, 3)", x.work(1, 3), 61);
        Check.due("work(11, 0)", x.work(11, 0), 23);
        Check.due("new plot below 0", new HouseTwins().plot(-1, 0, 0, 1), Check.BAD);
        Check.due("new plot", new HouseTwins().plot(0, 0, 0, 1), 1);
    }

    private static void wrongNumbers() {
        HouseTwins x = Check.told("work 0 0 0 house 0 left;");
        for (int n : new int[] {-1, 25, Integer.MIN_VALUE, Integer.MAX_VALUE}) {
            Check.due("after(" + n + ", 0, 0)", x.after(n, 0, 0), Check.BAD);
            Check.due("paid(" + n + ", 0)", x.paid(n, 0), Check.BAD);
            Check.due("owes(" + n + ", 0)", x.owes(n, 0), Check.BAD);
            Check.due("fate(" + n + ")", x.fate(n), Check.BAD);
        }
        for (int b : new int[] {-1, 2, Integer.MIN_VALUE, Integer.MAX_VALUE}) {
            Check.due("after(1, " + b + ", 0)", x.after(1, b, 0), Check.BAD);
            Check.due("paid(1, " + b + ")", x.paid(1, b), Check.BAD);
            Check.due("owes(1, " + b + ")", x.owes(1, b), Check.BAD);
        }
        for (int i : new int[] {-1, 5, Integer.MIN_VALUE, Integer.MAX_VALUE}) {
            Check.due("after(1, 0, " + i + ")", x.after(1, 0, i), Check.BAD);
        }
    }
}

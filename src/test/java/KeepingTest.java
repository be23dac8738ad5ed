/** Promises 39 to 45: images, sheets, counts. */
public final class KeepingTest {
    private static final int[] WRONG = {-1, 4, Integer.MIN_VALUE, Integer.MAX_VALUE};

    public static void main(String[] args) {
        images();
        sheets();
        lanes();
        reads();
        tears();
        refusedReads();
        counts();
        Check.finish("KeepingTest");
    }

    private static void images() {
        HouseTwins x = Check.told("lots 3;thing 0 0 house 0 left;thing 1 2 shop 0 left;work 1 0 1 tower 0 left;");
        x.want(0, 1);
        x.want(2, 5);
        x.saw(0, 0, 3, true);
        Check.due("back(0) of none", x.back(0), Check.STATE);
        Check.due("keep(0)", x.keep(0), 0);
        Check.due("count(4)", x.count(4), 1);
        x.put(0, 1, 2);
        x.plot(3, 1, 1, 0);
        x.content();
        x.want(1, 4);
        x.forget();
        Check.due("keep(1)", x.keep(1), 0);
        Check.due("count(4)", x.count(4), 2);
        x.sheet(0, 0, 5);
        Check.lay(x, "pull 2;");
        Check.due("back(0)", x.back(0), 2);
        Check.due("thing(0, 1)", x.thing(0, 1), 0);
        Check.due("rule(3)", x.rule(3), 1);
        Check.due("plan(0, 11): two wants", x.plan(0, 11), 1);
        Check.due("count(3)", x.count(3), 1);
        Check.due("the tape is in no image", x.count(5), 7);
        Check.due("the sheets are in no image", x.count(6), 5);
        x.put(0, 0, 0);
        Check.due("back(0) again: the image was left alone", x.back(0), 2);
        Check.due("back(1)", x.back(1), 3);
        Check.due("rule(3)", x.rule(3), 2);
        Check.due("work(1, 0)", x.work(1, 0), 3);
        Check.due("count(2)", x.count(2), 1);
        Check.due("count(3)", x.count(3), 0);
        Check.due("keep(0) again", x.keep(0), 1);
        Check.due("back(0)", x.back(0), 3);
        for (int k : new int[] {-1, 2, Integer.MIN_VALUE, Integer.MAX_VALUE}) {
            Check.due("keep(" + k + ")", x.keep(k), Check.BAD);
            Check.due("back(" + k + ")", x.back(k), Check.BAD);
        }
        Check.due("text()", x.text(), 1);
        Check.due("count(4) behind a text", x.count(4), 0);
        Check.due("back(1) behind a text", x.back(1), Check.STATE);
        Check.due("keep(1) behind a text", x.keep(1), 0);
    }

    private static void sheets() {
        HouseTwins x = new HouseTwins();
        Check.due("sheet(0, 0, 0)", x.sheet(0, 0, 0), 1);
        Check.due("count(6)", x.count(6), 0);
        Check.due("lay on no cell", x.lay(0, 0, 1), -12);
        Check.due("sheet(0, 1, 40)", x.sheet(0, 1, 40), 1);
        Check.due("count(6)", x.count(6), 40);
        Check.due("lay(0, 39, 1)", x.lay(0, 39, 1), 1);
        Check.due("lay(0, 40, 1)", x.lay(0, 40, 1), -12);
        Check.due("lay(0, -1, 1)", x.lay(0, -1, 1), -12);
        Check.due("lay(0, most, 1)", x.lay(0, Integer.MAX_VALUE, 1), -12);
        Check.due("lay(1, 0, 1): nothing", x.lay(1, 0, 1), -11);
        Check.due("lay(1, -1, 1): nothing", x.lay(1, -1, 1), -11);
        Check.due("sheet(0, 0, 41)", x.sheet(0, 0, 41), Check.BAD);
        Check.due("sheet(0, 0, -1)", x.sheet(0, 0, -1), -14);
        Check.due("sheet(0, 0, least)", x.sheet(0, 0, Integer.MIN_VALUE), -14);
        Check.due("sheet(0, 3, -1): BAD comes first", x.sheet(0, 3, -1), Check.BAD);
        Check.due("sheet(4, 0, -1): BAD comes first", x.sheet(4, 0, -1), Check.BAD);
        Check.due("refused: the sheet stays", x.count(6), 40);
        Check.due("sheet(0, 2, 3)", x.sheet(0, 2, 3), 1);
        Check.due("lay(0, 39, 1) on the new one", x.lay(0, 39, 1), -12);
        for (int n : WRONG) {
            Check.due("sheet(" + n + ", 0, 1)", x.sheet(n, 0, 1), Check.BAD);
            Check.due("sheet(0, " + n + ", 1)", x.sheet(0, n, 1), Check.BAD);
            Check.due("lay(" + n + ", 0, 1)", x.lay(n, 0, 1), Check.BAD);
        }
        Check.due("sheet(3, 2, 1)", x.sheet(3, 2, 1), 1);
        Check.due("lay(3, 0, 1)", x.lay(3, 0, 1), 1);
    }

    private static void dueRead(HouseTwins x, int lane, int v, boolean same) {
        x.sheet(0, lane, 3);
        x.lay(0, 2, v);
        Check.due("read of " + v + " on lane " + lane, x.read(0, lane, 0, 1), same ? 1 : -20);
        if (same) {
            Check.due("what was read of " + v, x.thing(0, 0), 1);
        }
    }

    private static void lanes() {
        HouseTwins x = new HouseTwins();
        dueRead(x, 0, 1, true);
        dueRead(x, 0, 256 + 1, true);
        dueRead(x, 0, -255, true);
        dueRead(x, 0, 128 + 1, false);
        dueRead(x, 1, 256 + 1, false);
        dueRead(x, 1, 65536 + 1, true);
        dueRead(x, 1, 32768 + 1, false);
        dueRead(x, 2, 65536 + 1, false);
        dueRead(x, 2, Integer.MIN_VALUE + 1, false);
        dueRead(x, 2, 1, true);
        x.sheet(0, 2, 3);
        Check.due("a new row of cells 0", x.read(0, 2, 0, 1), 1);
        Check.due("thing(0, 0)", x.thing(0, 0), 0);
    }

    private static void layThings(HouseTwins x, int k, int from, int... cells) {
        for (int c = 0; c < cells.length; c++) {
            Check.due("lay", x.lay(k, from + c, cells[c]), 1);
        }
    }

    private static void reads() {
        HouseTwins x = new HouseTwins();
        x.sheet(2, 1, 40);
        layThings(x, 2, 1, 0, 4, 61, 1, 3, 2, 0, 4, 3);
        Check.due("read(2, 1, 1, 3)", x.read(2, 1, 1, 3), 3);
        Check.due("the later of two stands", x.thing(0, 4), 3);
        Check.due("thing(1, 3)", x.thing(1, 3), 2);
        Check.due("torn()", x.torn(), 0);
        x.put(0, 4, 0);
        Check.due("read(2, 1, 1, 1)", x.read(2, 1, 1, 1), 1);
        Check.due("thing(0, 4)", x.thing(0, 4), 61);
        Check.due("read of none", x.read(2, 1, 1, 0), 0);
        Check.due("read of none, anywhere", x.read(2, 1, -7, 0), 0);
        Check.due("torn()", x.torn(), 0);
        Check.due("read of all", x.read(2, 1, 1, 13), 13);
        Check.due("torn()", x.torn(), 0);
        Check.due("cells 0 are nothing on LOT 0 of BANK 0", x.count(0), 2);
    }

    private static void tears() {
        HouseTwins x = new HouseTwins();
        x.sheet(0, 0, 8);
        layThings(x, 0, 0, 0, 0, 1, 1, 1, 2, 0, 2);
        Check.due("read of more than there is", x.read(0, 0, 0, 3), 2);
        Check.due("torn(): INDEX", x.torn(), 2);
        Check.due("those that were whole are put", x.count(0), 2);
        Check.due("thing(1, 1)", x.thing(1, 1), 2);
        Check.due("read of another lane", x.read(0, 2, 0, 2), 0);
        Check.due("torn(): CAST", x.torn(), 3);
        Check.due("read of two", x.read(0, 0, 0, 2), 2);
        Check.due("torn(): 0", x.torn(), 0);
        Check.due("read from below 0", x.read(0, 0, -1, 1), 0);
        Check.due("torn(): INDEX", x.torn(), 2);
        Check.due("read of nothing", x.read(1, 2, 0, 1), 0);
        Check.due("torn(): NULL", x.torn(), 1);
        Check.due("read of nothing from below 0", x.read(1, 1, -1, 1), 0);
        Check.due("torn(): NULL", x.torn(), 1);
        Check.due("read from far behind", x.read(0, 0, Integer.MAX_VALUE, 13), 0);
        Check.due("torn(): INDEX", x.torn(), 2);
        Check.due("read from far below", x.read(0, 0, Integer.MIN_VALUE, 13), 0);
        Check.due("torn(): INDEX", x.torn(), 2);
        Check.due("read of the end", x.read(0, 0, 8, 1), 0);
        Check.due("torn(): INDEX", x.torn(), 2);
        readsOfNone();
    }

    private static void readsOfNone() {
        for (int k = 0; k < 4; k++) {
            for (int lane = 0; lane < 3; lane++) {
                HouseTwins x = new HouseTwins();
                for (int made = 0; made < 3; made++) {
                    x.sheet(made, made, made == 2 ? 0 : 4);
                }
                x.read(3, 0, 0, 1);
                Check.due("torn(): NULL ahead", x.torn(), 1);
                for (int f : new int[] {0, 4, -1, 40, Integer.MAX_VALUE, Integer.MIN_VALUE}) {
                    String call = "read(" + k + ", " + lane + ", " + f + ", 0)";
                    Check.due(call, x.read(k, lane, f, 0), 0);
                    Check.due("torn() after " + call + ": no cell is read", x.torn(), 0);
                }
            }
        }
    }

    private static void refusedReads() {
        HouseTwins x = Check.told("lots 2;");
        x.sheet(0, 2, 9);
        layThings(x, 0, 0, 0, 0, 1, 1, 1, 2, 0, 1, 8);
        Check.due("THING 2 is bad", x.read(0, 2, 0, 3), -22);
        Check.due("then none is put", x.count(0), 0);
        Check.due("torn() of none", x.torn(), 0);
        Check.due("read of two and a part", x.read(0, 2, 3, 13), -21);
        Check.due("torn() of none", x.torn(), 0);
        Check.due("read(0, 0, 0, 1)", x.read(0, 0, 0, 1), 0);
        Check.due("torn(): CAST", x.torn(), 3);
        Check.due("THING 0 is bad", x.read(0, 2, 6, 1), -20);
        Check.due("torn() of the one that came to an end", x.torn(), 3);
        x.lay(0, 8, 3);
        x.lay(0, 7, 2);
        Check.due("no such LOT", x.read(0, 2, 0, 3), -22);
        x.lay(0, 7, -1);
        Check.due("no such LOT", x.read(0, 2, 0, 3), -22);
        x.lay(0, 7, 1);
        x.lay(0, 6, 2);
        Check.due("no such BANK", x.read(0, 2, 0, 3), -22);
        x.lay(0, 6, -1);
        Check.due("no such BANK", x.read(0, 2, 0, 3), -22);
        x.lay(0, 6, 0);
        Check.due("all three", x.read(0, 2, 0, 3), 3);
        Check.due("count(0)", x.count(0), 3);
        for (int n : WRONG) {
            Check.due("read(" + n + ", 2, 0, 1)", x.read(n, 2, 0, 1), Check.BAD);
            Check.due("read(0, " + n + ", 0, 1)", x.read(0, n, 0, 1), Check.BAD);
        }
        Check.due("read(0, 3, 0, 1)", x.read(0, 3, 0, 1), Check.BAD);
        Check.due("read(0, 2, 0, -1)", x.read(0, 2, 0, -1), Check.BAD);
        Check.due("read(0, 2, 0, 14)", x.read(0, 2, 0, 14), Check.BAD);
        Check.due("read(1, 2, 0, 14): nothing", x.read(1, 2, 0, 14), Check.BAD);
        Check.due("torn()", x.torn(), 0);
    }

    private static void counts() {
        HouseTwins x = Check.told("lots 8;bend 1;thing 0 7 house 0 left;thing 1 7 shop 0 left;thing 1 0 nothing;");
        x.want(0, 1);
        x.saw(0, 0, 0, true);
        x.saw(0, 0, 0, true);
        x.keep(1);
        x.feed(0);
        x.end(3);
        x.sheet(0, 1, 11);
        int[] due = {2, 6, 1, 2, 1, 3, 11};
        for (int what = 0; what < due.length; what++) {
            Check.due("count(" + what + ")", x.count(what), due[what]);
        }
        for (int what : new int[] {-1, 7, Integer.MIN_VALUE, Integer.MAX_VALUE}) {
            Check.due("count(" + what + ")", x.count(what), Check.BAD);
        }
    }
}

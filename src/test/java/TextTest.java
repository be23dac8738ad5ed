/** Promises 1 to 10: a new object, THE TAPE, the text and what it tells. */
public final class TextTest {
    private static final int[] WRONG = {-1, Integer.MIN_VALUE, Integer.MAX_VALUE};

    public static void main(String[] args) {
        newObject();
        tape();
        linesAreCounted();
        noToken();
        misplaced();
        outOfBounds();
        toldTwice();
        theThirteenthWork();
        lotsThatAreNot();
        theFirstFaultMet();
        aTextReplacesAll();
        aFaultLeavesAll();
        whatWasTold();
        mirrors();
        works();
        Check.finish("TextTest");
    }

    private static void newObject() {
        HouseTwins x = new HouseTwins();
        Check.due("new rule(0)", x.rule(0), 5);
        Check.due("new rule(1)", x.rule(1), 3);
        Check.due("new rule(2)", x.rule(2), 1);
        Check.due("new rule(3)", x.rule(3), 0);
        for (int q = 0; q < 4; q++) {
            Check.due("new rule(1" + q + ")", x.rule(10 + q), 1);
            Check.due("new colour(" + q + ")", x.colour(q), q);
        }
        for (int k = 0; k < 6; k++) {
            Check.due("new kind(" + k + ", 0)", x.kind(k, 0), k);
            Check.due("new kind(" + k + ", 1)", x.kind(k, 1), 0);
            for (int b = 0; b < 2; b++) {
                Check.due("new cost of " + k, x.kind(k, 10 + b), k == 0 ? 1 : 5);
                Check.due("new taste for " + k, x.kind(k, 20 + b), k == 0 ? 0 : 3);
                Check.due("new lack of " + k, x.kind(k, 30 + b), 0);
            }
        }
        for (int b = 0; b < 2; b++) {
            for (int i = 0; i < 5; i++) {
                Check.due("new thing", x.thing(b, i), 0);
            }
        }
        int[] counts = {0, 5, 0, 0, 0, 0, Check.NONE};
        for (int what = 0; what < counts.length; what++) {
            Check.due("new count(" + what + ")", x.count(what), counts[what]);
        }
        Check.due("new fault()", x.fault(), 0);
        Check.due("new torn()", x.torn(), 0);
        for (int k = 0; k < 4; k++) {
            Check.due("new sheet " + k, x.lay(k, 0, 1), -11);
        }
    }

    private static void tape() {
        HouseTwins x = new HouseTwins();
        Check.due("end(0) of nothing", x.end(0), 0);
        Check.due("end(1) of nothing", x.end(1), Check.BAD);
        for (int n = 1; n <= 50; n++) {
            Check.due("feed " + n, x.feed(n), 8 * n);
        }
        Check.due("feed 51", x.feed(0), Check.FULL);
        Check.due("count(5) when full", x.count(5), 400);
        Check.due("end(-1)", x.end(-1), Check.BAD);
        Check.due("end(401)", x.end(401), Check.BAD);
        Check.due("end(400)", x.end(400), 400);
        Check.due("end(393)", x.end(393), 400);
        Check.due("feed on 393", x.feed(0), Check.FULL);
        Check.due("end(392)", x.end(392), 393);
        Check.due("feed on 392", x.feed(0), 400);
        Check.due("end(0)", x.end(0), 400);
        // The highest byte comes first, and bytes above 127 are bytes too.
        Check.due("feed pull 7; ", x.feed(0x70756c6c20373b20L), 8);
        Check.due("feed of high bytes", x.feed(0xffffffffffffffffL), 16);
        Check.due("text()", x.text(), -10 - 8);
        Check.due("fault()", x.fault(), 1);
        Check.due("the tape is empty behind a fault", x.count(5), 0);
        x.feed(0x70756c6c20373b20L);
        Check.due("text()", x.text(), 1);
        Check.due("rule(2)", x.rule(2), 7);
        Check.due("the tape is empty behind a text", x.count(5), 0);
    }

    private static void linesAreCounted() {
        Check.dueLines("", 0);
        Check.dueLines("    ", 0);
        Check.dueLines("lots 4;", 1);
        Check.dueLines("  lots  4  ;  ", 1);
        Check.dueLines("lots4;bend0;pull00;price1 2 3 4;", 4);
        Check.dueLines("pull 5;lots 08;lack 0 shop;lack 0 shop;right shop;right shop;", 6);
        Check.dueLines("thing 0 0 house0left;work23 1 4shrine 3right;", 2);
        Check.dueLines("thing 0 0 nothing;thing 1 0 nothing;thing 0 1 nothing;", 3);
        Check.dueLines("paint 0 1;paint 2 3;twin house tower;twin shop shrine;", 4);
        // With three figures more than these, a number is read as two.
        Check.dueLines("price 9 9 9 9;cost 0 20 20 20 20 20;cost 1 0 0 0 0 0;taste 1 20 0 20 0 20;", 4);
    }

    private static void noToken() {
        Check.dueFault("Lots 4;", 0, 1);
        Check.dueFault("lots -4;", 5, 1);
        Check.dueFault("lots 4:", 6, 1);
        Check.dueFault("lots\t4;", 4, 1);
        Check.dueFault("lots 4;\n", 7, 1);
        Check.dueFault("lots 004;", 5, 1);
        Check.dueFault("lots 123456789123;", 5, 1);
        Check.dueFault("123;", 0, 1);
        Check.dueFault("`;", 0, 1);
        Check.dueFault("{;", 0, 1);
        Check.dueFault("/", 0, 1);
        Check.dueFault("\u00e9", 0, 1);
        Check.dueFault("pull 5;\u0000", 7, 1);
    }

    private static void misplaced() {
        Check.dueFault(";", 0, 2);
        Check.dueFault("12;", 0, 2);
        Check.dueFault("lotss 4;", 0, 2);
        Check.dueFault("lot 4;", 0, 2);
        Check.dueFault("left;", 0, 2);
        Check.dueFault("lots", 4, 2);
        Check.dueFault("lots   ", 7, 2);
        Check.dueFault("lots;", 4, 2);
        Check.dueFault("lots four;", 5, 2);
        Check.dueFault("lots 4", 6, 2);
        Check.dueFault("lots 4 5;", 7, 2);
        Check.dueFault("lots 4 lots 5;", 7, 2);
        Check.dueFault("lots 4;;", 7, 2);
        Check.dueFault("price 1 2 3;", 11, 2);
        Check.dueFault("price 1 2 3 4 5;", 14, 2);
        Check.dueFault("cost 0 1 2 3 4;", 14, 2);
        Check.dueFault("cost house 1 2 3 4 5;", 5, 2);
        Check.dueFault("lack 0 1;", 7, 2);
        Check.dueFault("lack house;", 5, 2);
        Check.dueFault("lack 0 nothing;", 7, 2);
        Check.dueFault("twin house nothing;", 11, 2);
        Check.dueFault("twin nothing house;", 5, 2);
        Check.dueFault("twin house;", 10, 2);
        Check.dueFault("paint 1;", 7, 2);
        Check.dueFault("right;", 5, 2);
        Check.dueFault("right houses;", 6, 2);
        Check.dueFault("thing 0 0;", 9, 2);
        Check.dueFault("thing 0 0 left;", 10, 2);
        Check.dueFault("thing 0 0 1;", 10, 2);
        Check.dueFault("thing 0 0 nothing 1 left;", 18, 2);
        Check.dueFault("thing 0 0 house left;", 16, 2);
        Check.dueFault("thing 0 0 house 1;", 17, 2);
        Check.dueFault("thing 0 0 house 1 3;", 18, 2);
        Check.dueFault("thing 0 0 house 1 up;", 18, 2);
        Check.dueFault("thing 0 0 house 1 lefts;", 18, 2);
        Check.dueFault("work 0 0 0", 10, 2);
        Check.dueFault("work 0 0 nothing;", 9, 2);
    }

    private static void outOfBounds() {
        Check.dueFault("lots 0;", 5, 3);
        Check.dueFault("lots 9;", 5, 3);
        Check.dueFault("bend 7;", 5, 3);
        Check.dueFault("pull 21;", 5, 3);
        Check.dueFault("price 1 0 1 1;", 8, 3);
        Check.dueFault("price 1 1 1 10;", 12, 3);
        Check.dueFault("cost 2 1 1 1 1 1;", 5, 3);
        Check.dueFault("cost 1 21 1 1 1 1;", 7, 3);
        Check.dueFault("taste 2 1 1 1 1 1;", 6, 3);
        Check.dueFault("taste 0 1 1 21 1 1;", 12, 3);
        Check.dueFault("lack 2 shop;", 5, 3);
        Check.dueFault("paint 4 0;", 6, 3);
        Check.dueFault("paint 0 4;", 8, 3);
        Check.dueFault("thing 2 0 nothing;", 6, 3);
        Check.dueFault("thing 0 8 nothing;", 8, 3);
        Check.dueFault("thing 0 0 house 4 left;", 16, 3);
        Check.dueFault("work 24 0 0 nothing;", 5, 3);
        Check.dueFault("work 0 2 0 nothing;", 7, 3);
        Check.dueFault("work 0 0 8 nothing;", 9, 3);
        Check.dueFault("work 3 0 0 nothing;work 2 0 0 nothing;", 24, 3);
        Check.dueLines("work 3 0 0 nothing;work 3 0 0 nothing;", 2);
        Check.dueLines("work 23 0 0 nothing;work 23 0 0 nothing;", 2);
    }

    private static void toldTwice() {
        Check.dueFault("lots 4;lots 4;", 7, 4);
        Check.dueFault("bend 4;lots 4;bend 4;", 14, 4);
        Check.dueFault("pull 4;  pull 4;", 9, 4);
        Check.dueFault("price 1 1 1 1;price 1 1 1 1;", 14, 4);
        Check.dueFault("cost 1 1 1 1 1 1;cost 0 1 1 1 1 1;cost 1 1 1 1 1 1;", 39, 4);
        Check.dueFault("taste 0 1 1 1 1 1;taste 1 1 1 1 1 1;taste 0 1 1 1 1 1;", 42, 4);
        Check.dueFault("thing 1 2 nothing;thing 1 2 house 0 left;", 26, 4);
        Check.dueFault("twin house house;", 11, 4);
        Check.dueFault("twin house shop;twin shop tower;", 21, 4);
        Check.dueFault("twin house shop;twin tower shop;", 27, 4);
        Check.dueFault("twin house shop;twin shop house;", 21, 4);
        Check.dueFault("paint 3 3;", 8, 4);
        Check.dueFault("paint 0 1;paint 1 2;", 16, 4);
        Check.dueFault("paint 0 1;paint 2 0;", 18, 4);
        Check.dueLines("cost 0 1 1 1 1 1;cost 1 1 1 1 1 1;taste 0 1 1 1 1 1;taste 1 1 1 1 1 1;", 4);
    }

    private static void theThirteenthWork() {
        StringBuilder twelve = new StringBuilder();
        for (int w = 0; w < 12; w++) {
            twelve.append("work 0 0 0 nothing;");
        }
        Check.dueLines(twelve.toString(), 12);
        Check.dueFault(twelve + " work", 12 * 19 + 1, 5);
        Check.dueFault(twelve + "works", 12 * 19, 2);
    }

    private static void lotsThatAreNot() {
        Check.dueFault("thing 0 5 nothing;", 18, 6);
        Check.dueFault("thing 1 7 house 0 left; ", 24, 6);
        Check.dueFault("work 0 1 5 nothing;", 19, 6);
        Check.dueFault("lots 3;thing 0 3 nothing;", 25, 6);
        Check.dueFault("thing 0 3 nothing;lots 3;pull 2;", 32, 6);
        Check.dueFault("work 0 0 1 nothing;lots 1;", 26, 6);
        Check.dueLines("thing 0 7 nothing;work 0 1 7 nothing;lots 8;", 3);
        Check.dueLines("thing 1 0 nothing;work 0 0 0 nothing;lots 1;", 3);
    }

    private static void theFirstFaultMet() {
        // A number is judged before the byte behind it is looked at.
        Check.dueFault("lots 9@", 5, 3);
        Check.dueFault("lots 5@", 6, 1);
        Check.dueFault("lots 4;lots@", 7, 4);
        Check.dueFault("lotz@", 0, 2);
        Check.dueFault("thing 0 5 nothing;@", 18, 1);
        Check.dueFault("thing 0 5 nothing;x", 18, 2);
        Check.dueFault("cost 0 1 1 1 1 1;cost 2 1 1 1 1 1;", 22, 3);
        Check.dueFault("paint 1 2;paint 5 5;", 16, 3);
        Check.dueFault("paint 1 100;", 8, 1);
        Check.dueFault("house 100;", 0, 2);
        Check.dueFault("lots house5;", 5, 2);
        Check.dueFault("twin house house5;", 11, 4);
    }

    private static void aTextReplacesAll() {
        HouseTwins x = Check.told("lots 8;bend 0;pull 9;price 2 3 4 5;cost 0 1 2 3 4 5;taste 1 5 4 3 2 1;lack 0 shop;"
                + "twin house shop;paint 0 3;right tower;thing 0 7 house 0 left;work 5 1 6 tower 1 right;");
        x.want(7, 1);
        x.saw(0, 7, 3, true);
        x.keep(0);
        x.keep(1);
        Check.due("text() of nothing", x.text(), 0);
        Check.due("back(0) behind a text", x.back(0), Check.STATE);
        Check.due("back(1) behind a text", x.back(1), Check.STATE);
        Check.due("rule(0)", x.rule(0), 5);
        Check.due("rule(1)", x.rule(1), 3);
        Check.due("rule(2)", x.rule(2), 1);
        Check.due("rule(3)", x.rule(3), 0);
        Check.due("rule(13)", x.rule(13), 1);
        Check.due("kind(1, 0)", x.kind(1, 0), 1);
        Check.due("kind(4, 1)", x.kind(4, 1), 0);
        Check.due("kind(1, 10)", x.kind(1, 10), 5);
        Check.due("kind(1, 21)", x.kind(1, 21), 3);
        Check.due("kind(3, 30)", x.kind(3, 30), 0);
        Check.due("colour(0)", x.colour(0), 0);
        for (int what = 0; what <= 5; what++) {
            Check.due("count(" + what + ")", x.count(what), what == 1 ? 5 : 0);
        }
    }

    private static void aFaultLeavesAll() {
        HouseTwins x = Check.told("lots 6;cost 0 1 2 3 4 5;lack 1 shop;thing 0 5 house 0 left;work 5 1 5 tower 1 right;");
        x.want(5, 1);
        x.saw(0, 5, 3, true);
        x.keep(0);
        x.sheet(0, 2, 7);
        String faulty = "lots 2;cost 0 9 9 9 9 9;lack 0 house;right house;twin shop house;paint 0 1;x";
        Check.due("text()", Check.tell(x, faulty), -10 - (faulty.length() - 1));
        Check.due("fault()", x.fault(), 2);
        Check.due("rule(0)", x.rule(0), 6);
        Check.due("rule(3)", x.rule(3), 1);
        Check.due("kind(1, 10)", x.kind(1, 10), 1);
        Check.due("kind(1, 30)", x.kind(1, 30), 0);
        Check.due("kind(3, 31)", x.kind(3, 31), 1);
        Check.due("kind(3, 0)", x.kind(3, 0), 3);
        Check.due("kind(1, 1)", x.kind(1, 1), 0);
        Check.due("colour(0)", x.colour(0), 0);
        int[] counts = {1, 6, 1, 1, 1, 0, 7};
        for (int what = 0; what < counts.length; what++) {
            Check.due("count(" + what + ")", x.count(what), counts[what]);
        }
        Check.due("text() that is taken", Check.tell(x, "pull 3;"), 1);
        Check.due("fault() of it", x.fault(), 0);
        Check.due("a text leaves the sheets", x.count(6), 7);
    }

    private static void whatWasTold() {
        HouseTwins x = Check.told("lots 8;bend 6;pull 20;price 9 8 7 6;cost 0 1 2 3 4 5;cost 1 6 7 8 9 10;"
                + "taste 0 11 12 13 14 15;taste 1 16 17 18 19 20;lack 0 house;lack 1 shrine;twin house shop;paint 3 1;right tower;");
        int[] rules = {8, 6, 20, 0};
        for (int what = 0; what < 4; what++) {
            Check.due("rule(" + what + ")", x.rule(what), rules[what]);
            Check.due("rule(1" + what + ")", x.rule(10 + what), 9 - what);
        }
        int[] twins = {0, 3, 2, 1, 4, 5};
        for (int k = 0; k < 6; k++) {
            Check.due("kind(" + k + ", 0)", x.kind(k, 0), twins[k]);
            Check.due("kind(" + k + ", 1)", x.kind(k, 1), k == 4 ? 1 : 0);
            Check.due("kind(" + k + ", 10)", x.kind(k, 10), k == 0 ? 20 : k);
            Check.due("kind(" + k + ", 11)", x.kind(k, 11), k == 0 ? 20 : 5 + k);
            Check.due("kind(" + k + ", 20)", x.kind(k, 20), k == 0 ? 0 : 10 + k);
            Check.due("kind(" + k + ", 21)", x.kind(k, 21), k == 0 ? 0 : 15 + k);
            Check.due("kind(" + k + ", 30)", x.kind(k, 30), k == 1 ? 1 : 0);
            Check.due("kind(" + k + ", 31)", x.kind(k, 31), k == 5 ? 1 : 0);
        }
        int[] paints = {0, 3, 2, 1};
        for (int c = 0; c < 4; c++) {
            Check.due("colour(" + c + ")", x.colour(c), paints[c]);
        }
        for (int n : WRONG) {
            Check.due("rule(" + n + ")", x.rule(n), Check.BAD);
            Check.due("kind(" + n + ", 0)", x.kind(n, 0), Check.BAD);
            Check.due("kind(1, " + n + ")", x.kind(1, n), Check.BAD);
            Check.due("colour(" + n + ")", x.colour(n), Check.BAD);
        }
        Check.due("rule(4)", x.rule(4), Check.BAD);
        Check.due("rule(9)", x.rule(9), Check.BAD);
        Check.due("rule(14)", x.rule(14), Check.BAD);
        Check.due("kind(6, 0)", x.kind(6, 0), Check.BAD);
        for (int what : new int[] {2, 9, 12, 19, 22, 29, 32}) {
            Check.due("kind(1, " + what + ")", x.kind(1, what), Check.BAD);
        }
        Check.due("colour(4)", x.colour(4), Check.BAD);
    }

    private static void mirrors() {
        HouseTwins x = Check.told("twin house garden;twin shop tower;right shop;paint 0 2;");
        Check.due("mirror of nothing", x.mirror(0), 0);
        Check.due("house 0 left", x.mirror(1), 2 + 16 + 32);
        Check.due("house 2 right", x.mirror(1 + 16 + 32), 2);
        Check.due("garden 1 left", x.mirror(2 + 8), 1 + 8 + 32);
        Check.due("shop 3 left: its door stays", x.mirror(3 + 24), 4 + 24);
        Check.due("tower 3 right: its twin's too", x.mirror(4 + 24 + 32), 3 + 24 + 32);
        Check.due("shrine 0 right", x.mirror(5 + 32), 5 + 16);
        for (int t = -3; t < 70; t++) {
            boolean is = t == 0 || t > 0 && t < 64 && t % 8 >= 1 && t % 8 <= 5;
            Check.due("mirror twice of " + t, is ? x.mirror(x.mirror(t)) : x.mirror(t), is ? t : Check.BAD);
        }
        Check.due("mirror(8)", x.mirror(8), Check.BAD);
        Check.due("mirror(32)", x.mirror(32), Check.BAD);
        for (int n : WRONG) {
            Check.due("mirror(" + n + ")", x.mirror(n), Check.BAD);
        }
    }

    private static void works() {
        HouseTwins x = Check.told("work 2 1 4 shrine 3 right;work 23 0 0 nothing;");
        int[][] dues = {{2, 1, 4, 61}, {23, 0, 0, 0}};
        for (int w = 0; w < 2; w++) {
            for (int what = 0; what < 4; what++) {
                Check.due("work(" + w + ", " + what + ")", x.work(w, what), dues[w][what]);
            }
        }
        Check.due("work(2, 0)", x.work(2, 0), Check.BAD);
        Check.due("work(-1, 0)", x.work(-1, 0), Check.BAD);
        Check.due("work(0, 4)", x.work(0, 4), Check.BAD);
        Check.due("work(0, -1)", x.work(0, -1), Check.BAD);
    }
}

import java.util.function.IntConsumer;

/** Every call with every number at and about the edges, small and far away, each answer against the Oracle's. */
public final class GridTest {
    private static final int MIN = Integer.MIN_VALUE, MAX = Integer.MAX_VALUE;
    // Numbers that come to be small ones again, if bits or sums are lost on the way.
    private static final int[] FAR = {MIN, MIN + 1, MIN + 8, -65536, -65535, -256, -255, -33, -8, -3, -2, -1, 255, 256, 257, 65536, 65537,
        MAX - 38, MAX - 2, MAX - 1, MAX};
    private static final String[] TEXTS = {"",
        "lots 8;bend 6;pull 20;price 9 1 5 1;cost 0 1 2 3 4 5;taste 1 20 0 9 9 9;lack 1 tower;twin house garden;right shop;paint 0 1;"
            + "thing 0 4 house 0 left;thing 1 7 garden 1 right;thing 0 7 shop 0 left;work 0 0 1 shop 0 left;work 23 1 7 nothing;",
        "lots 1;bend 3;pull 0;taste 0 9 9 9 9 9;cost 1 0 0 0 0 0;thing 0 0 shop 3 right;thing 1 0 shop 3 left;work 0 0 0 tower 0 left;",
        "lots 3;bend 0;lack 0 house;lack 0 shop;lack 1 house;lack 1 garden;lack 1 shop;lack 1 tower;lack 1 shrine;thing 0 2 shrine 2 left;"
            + "thing 1 1 shop 0 right;work 7 1 2 house 0 left;work 7 0 2 tower 1 left;",
        "lots 4;bend 2;twin shop tower;right tower;thing 0 1 shop 0 left;thing 1 0 tower 0 left;thing 0 2 shop 0 left;thing 0 3 shop 0 left;"
            + "work 1 0 1 house 0 left;work 1 1 0 house 0 left;work 3 1 2 shop 1 right;"};

    private final String text;
    private HouseTwins x;
    private Oracle o;
    private int calls;

    private GridTest(String text) {
        this.text = text;
        renew();
    }

    public static void main(String[] args) {
        for (String text : TEXTS) {
            GridTest grid = new GridTest(text);
            grid.asksOfOne();
            grid.asksOfTwo();
            grid.asksOfThree();
            grid.changes();
            grid.sheets();
        }
        Check.finish("GridTest");
    }

    /** Of 512 calls some 100 are made here, so that 400 are left to ask. */
    private void renew() {
        x = new HouseTwins();
        o = new Oracle();
        Check.lay(x, text);
        for (int p = 0; p < text.length(); p += 8) {
            long v = 0;
            for (int q = p; q < p + 8; q++) {
                v = v << 8 | (q < text.length() ? text.charAt(q) : ' ');
            }
            o.feed(v);
        }
        o.end(text.length());
        Check.due("text() of <" + text + ">", x.text(), o.text());
        int[][] wants = {{0, 1}, {0, 4}, {0, 1}};
        for (int[] w : wants) {
            Check.due("want", x.want(w[0], w[1]), o.want(w[0], w[1]));
        }
        Check.due("saw", x.saw(0, 0, 3, true), o.saw(0, 0, 3, true));
        Check.due("keep", x.keep(1), o.keep(1));
        Check.due("saw", x.saw(1, 0, 1, false), o.saw(1, 0, 1, false));
        for (int k = 0; k < 3; k++) {
            Check.due("sheet", x.sheet(k, k, 10), o.sheet(k, k, 10));
            for (int c = 0; c < 9; c++) {
                int v = new int[] {1, 0, 2, 0, 0, 33, 0, 0, 6}[c];
                Check.due("lay", x.lay(k, c, v), o.lay(k, c, v));
            }
        }
        calls = 0;
    }

    private void due(String call, long got, long want) {
        Check.due(call + " behind <" + text + ">", got, want);
        calls++;
        if (calls == 380) {
            renew();
        }
    }

    /** From 0 to most and two beyond, and what is far away. */
    private static void about(int most, IntConsumer each) {
        for (int n = 0; n <= most + 2; n++) {
            each.accept(n);
        }
        for (int n : FAR) {
            each.accept(n);
        }
    }

    private void asksOfOne() {
        about(40, n -> due("rule(" + n + ")", x.rule(n), o.rule(n)));
        about(10, n -> due("colour(" + n + ")", x.colour(n), o.colour(n)));
        about(140, n -> due("mirror(" + n + ")", x.mirror(n), o.mirror(n)));
        about(8, n -> due("third(" + n + ")", x.third(n), o.third(n)));
        about(13, n -> due("fate(" + n + ")", x.fate(n), o.fate(n)));
        about(2, n -> due("uneven(" + n + ")", x.uneven(n), o.uneven(n)));
        about(2, n -> due("cannot(" + n + ")", x.cannot(n), o.cannot(n)));
        about(7, n -> due("quarrel(" + n + ")", x.quarrel(n), o.quarrel(n)));
        about(24, n -> due("histories(" + n + ")", x.histories(n), o.histories(n)));
        about(8, n -> due("count(" + n + ")", x.count(n), o.count(n)));
        due("odd()", x.odd(), o.odd());
        due("bend()", x.bend(), o.bend());
        due("fault()", x.fault(), o.fault());
        due("torn()", x.torn(), o.torn());
    }

    private void asksOfTwo() {
        about(6, k -> about(33, what -> due("kind(" + k + ", " + what + ")", x.kind(k, what), o.kind(k, what))));
        about(13, w -> about(4, what -> due("work(" + w + ", " + what + ")", x.work(w, what), o.work(w, what))));
        about(2, b -> about(9, i -> due("thing(" + b + ", " + i + ")", x.thing(b, i), o.thing(b, i))));
        about(2, b -> about(9, i -> due("match(" + b + ", " + i + ")", x.match(b, i), o.match(b, i))));
        about(25, n -> about(2, b -> due("paid(" + n + ", " + b + ")", x.paid(n, b), o.paid(n, b))));
        about(25, n -> about(2, b -> due("owes(" + n + ", " + b + ")", x.owes(n, b), o.owes(n, b))));
        about(2, b -> about(9, i -> due("waits(" + b + ", " + i + ")", x.waits(b, i), o.waits(b, i))));
        about(2, b -> about(3, what -> due("vex(" + b + ", " + what + ")", x.vex(b, what), o.vex(b, what))));
        about(4, m -> about(17, what -> due("plan(" + m + ", " + what + ")", x.plan(m, what), o.plan(m, what))));
        about(2, b -> about(2, what -> due("shops(" + b + ", " + what + ")", x.shops(b, what), o.shops(b, what))));
    }

    private void asksOfThree() {
        about(2, b -> about(8, i -> about(6, k -> due("gain(" + b + ", " + i + ", " + k + ")", x.gain(b, i, k), o.gain(b, i, k)))));
        about(2, b -> about(8, i -> about(2, w -> due("begin(" + b + ", " + i + ", " + w + ")", x.begin(b, i, w), o.begin(b, i, w)))));
        about(2, b -> about(8, i -> about(2, w -> due("fire(" + b + ", " + i + ", " + w + ")", x.fire(b, i, w), o.fire(b, i, w)))));
        about(8, i -> about(24, m -> about(3, w -> due("began(" + i + ", " + m + ", " + w + ")", x.began(i, m, w), o.began(i, m, w)))));
        for (int n : new int[] {-1, 0, 1, 2, 8, 23, 24, 25, MIN, MAX}) {
            about(2, b -> about(8, i -> due("after(" + n + ", " + b + ", " + i + ")", x.after(n, b, i), o.after(n, b, i))));
        }
    }

    private void changes() {
        about(401, n -> {
            due("feed", x.feed(n), o.feed(n));
            due("end(" + n + ")", x.end(n), o.end(n));
        });
        about(2, b -> about(8, i -> about(10, t -> due("put(" + b + ", " + i + ", " + t + ")", x.put(b, i, t), o.put(b, i, t)))));
        about(70, t -> due("put(1, 0, " + t + ")", x.put(1, 0, t), o.put(1, 0, t)));
        about(8, i -> about(6, k -> due("want(" + i + ", " + k + ")", x.want(i, k), o.want(i, k))));
        about(2, k -> {
            due("keep(" + k + ")", x.keep(k), o.keep(k));
            due("back(" + (1 - k) + ")", x.back(1 - k), o.back(1 - k));
        });
        about(24, m -> about(2, b -> about(8, i -> {
            due("plot(" + m + ", " + b + ", " + i + ", 1)", x.plot(m, b, i, 1), o.plot(m, b, i, 1));
            due("saw(" + b + ", " + i + ", " + m + ", false)", x.saw(b, i, m, false), o.saw(b, i, m, false));
        })));
        about(70, t -> {
            due("go()", x.go(), o.go());
            due("plot(5, 0, 0, " + t + ")", x.plot(5, 0, 0, t), o.plot(5, 0, 0, t));
        });
    }

    private void sheets() {
        about(4, k -> about(41, i -> due("lay(" + k + ", " + i + ", 1)", x.lay(k, i, 1), o.lay(k, i, 1))));
        renew();
        about(4, k -> about(3, lane -> {
            for (int f : new int[] {-1, 0, 1, 3, 4, 7, 8, 9, 10, 11, MIN, MAX - 1}) {
                for (int n : new int[] {-1, 0, 1, 2, 3, 4, 13, 14, MIN, MAX}) {
                    due("read(" + k + ", " + lane + ", " + f + ", " + n + ")", x.read(k, lane, f, n), o.read(k, lane, f, n));
                    due("torn()", x.torn(), o.torn());
                }
            }
        }));
        about(4, k -> about(3, lane -> about(41, n -> due("sheet(" + k + ", " + lane + ", " + n + ")", x.sheet(k, lane, n), o.sheet(k, lane, n)))));
        renew();
    }
}

import java.util.Random;

/** All promises: long runs of calls, drawn from fixed seeds, each answer against the Oracle's. */
public final class RandomTest {
    private static final String[] KINDS = {"house", "garden", "shop", "tower", "shrine"};
    private static final String[] LINES = {"lots", "bend", "pull", "price", "cost", "taste", "lack", "twin", "paint", "right", "thing", "work"};
    private static final String SIGNS = " ;09az19 ;@A";

    private final Random random;
    private HouseTwins x = new HouseTwins();
    private Oracle o = new Oracle();
    private final StringBuilder run = new StringBuilder();
    private int month;
    private int calls;

    private RandomTest(long seed) {
        random = new Random(seed);
    }

    public static void main(String[] args) {
        for (int seed = 0; seed < 3500; seed++) {
            RandomTest test = new RandomTest(seed);
            test.feedAndTell();
            // Of 512 calls the last one here may make some 60.
            while (test.calls < 440) {
                test.call();
            }
        }
        for (int seed = 0; seed < 20000; seed++) {
            new RandomTest(1000000 + seed).texts();
        }
        Check.finish("RandomTest");
    }

    private int below(int n) {
        return random.nextInt(n);
    }

    private boolean often(int of) {
        return random.nextInt(of) != 0;
    }

    /** Mostly from 0 to most, at times just outside, seldom far away. */
    private int near(int most) {
        if (often(25)) {
            return below(most + 1);
        }
        int[] far = {-1, most + 1, most + 2, Integer.MIN_VALUE, Integer.MAX_VALUE, -2, 100};
        return far[below(far.length)];
    }

    private int thing() {
        if (!often(20)) {
            return near(70);
        }
        return often(4) ? 1 + below(5) + 8 * below(2) + 32 * below(2) : 0;
    }

    private void due(String call, long got, long want) {
        calls++;
        run.append(call).append('=').append(got).append(' ');
        Check.due(got == want ? call : run.toString(), got, want);
    }

    // ---- texts

    private String kind() {
        return KINDS[below(5)];
    }

    private String what() {
        return often(4) ? kind() + " " + below(often(60) ? 4 : 5) + (often(2) ? " left" : " right") : "nothing";
    }

    private String numbers(int n, int least, int most) {
        StringBuilder s = new StringBuilder();
        for (int j = 0; j < n; j++) {
            s.append(' ').append(often(200) ? least + below(most - least + 1) : most + 1);
        }
        return s.toString();
    }

    private String line(String name) {
        String rest = switch (name) {
            case "lots" -> numbers(1, 1, 8);
            case "bend" -> numbers(1, 0, 6);
            case "pull" -> numbers(1, 0, 20);
            case "price" -> numbers(4, 1, often(2) ? 9 : 3);
            case "cost", "taste" -> " " + below(2) + numbers(5, 0, often(2) ? 20 : 4);
            case "lack" -> " " + below(2) + " " + kind();
            case "twin" -> " " + kind() + " " + kind();
            case "paint" -> " " + below(4) + " " + below(4);
            case "right" -> " " + kind();
            case "thing" -> " " + below(2) + " " + below(often(10) ? 4 : 8) + " " + what();
            default -> " " + (month = Math.min(23, month + below(3))) + " " + below(2) + " " + below(often(10) ? 4 : 8) + " " + what();
        };
        return name + rest + ";";
    }

    private String text() {
        StringBuilder s = new StringBuilder();
        month = 0;
        for (int n = below(16); n > 0; n--) {
            String name = LINES[below(LINES.length)];
            boolean again = s.indexOf(name) >= 0 && "lots bend pull price twin paint cost taste".contains(name);
            if (!again || !often(20)) {
                s.append(line(name));
            }
        }
        if (!often(3) && s.length() > 0) {
            int p = below(s.length());
            switch (below(4)) {
                case 0 -> s.setCharAt(p, SIGNS.charAt(below(SIGNS.length())));
                case 1 -> s.insert(p, SIGNS.charAt(below(SIGNS.length())));
                case 2 -> s.deleteCharAt(p);
                default -> s.setLength(p);
            }
        }
        return s.toString();
    }

    private void feedAndTell() {
        String s = text();
        if (s.length() > 392) {
            s = s.substring(0, 392);
        }
        due("end", x.end(0), o.end(0));
        for (int p = 0; p < s.length(); p += 8) {
            long v = 0;
            for (int q = p; q < p + 8; q++) {
                v = v << 8 | (q < s.length() ? s.charAt(q) : 0xff);
            }
            due("feed(" + v + ")", x.feed(v), o.feed(v));
        }
        due("end(" + s.length() + ")", x.end(s.length()), o.end(s.length()));
        due("text() of <" + s + ">", x.text(), o.text());
        due("fault()", x.fault(), o.fault());
    }

    private void texts() {
        for (int n = 0; n < 3; n++) {
            feedAndTell();
        }
        for (int what = 0; what <= 13; what++) {
            due("rule(" + what + ")", x.rule(what), o.rule(what));
        }
        for (int k = 0; k < 6; k++) {
            for (int what = 0; what <= 31; what++) {
                due("kind(" + k + ", " + what + ")", x.kind(k, what), o.kind(k, what));
            }
        }
        for (int t = 0; t < 64; t++) {
            due("mirror(" + t + ")", x.mirror(t), o.mirror(t));
        }
        for (int w = 0; w < 12; w++) {
            for (int what = 0; what < 4; what++) {
                due("work", x.work(w, what), o.work(w, what));
            }
        }
        for (int i = 0; i < 8; i++) {
            due("thing", x.thing(0, i), o.thing(0, i));
            due("thing", x.thing(1, i), o.thing(1, i));
        }
    }

    // ---- calls

    private void call() {
        int which = below(100);
        if (which < 3) {
            feedAndTell();
        } else if (which < 20) {
            change();
        } else if (which < 36) {
            askThings();
        } else if (which < 58) {
            askRuns();
        } else if (which < 74) {
            askChoices();
        } else if (which < 88) {
            askPast();
        } else {
            sheets();
        }
    }

    private void change() {
        int b = near(1);
        int i = near(4);
        int t = thing();
        switch (below(14)) {
            case 0, 1, 2 -> due("put(" + b + ", " + i + ", " + t + ")", x.put(b, i, t), o.put(b, i, t));
            case 3, 4 -> {
                calls += 2;
                int m = x.match(b, i);
                int twin = x.mirror(t);
                due("put(" + b + ", " + i + ", " + t + ")", x.put(b, i, t), o.put(b, i, t));
                due("put(" + (1 - b) + ", " + m + ", " + twin + ")", x.put(1 - b, m, twin), o.put(1 - b, m, twin));
            }
            case 5, 6, 7 -> {
                calls += 2;
                int m = Math.max(0, x.work(x.rule(3) - 1, 0)) + below(2) - (often(15) ? 0 : 1);
                due("plot(" + m + ", " + b + ", " + i + ", " + t + ")", x.plot(m, b, i, t), o.plot(m, b, i, t));
            }
            case 8 -> {
                int k = near(5);
                due("want(" + i + ", " + k + ")", x.want(i, k), o.want(i, k));
            }
            case 9 -> {
                int m = near(23);
                boolean s = m > below(12);
                due("saw(" + b + ", " + i + ", " + m + ", " + s + ")", x.saw(b, i, m, s), o.saw(b, i, m, s));
            }
            case 10 -> due("forget()", x.forget(), o.forget());
            case 11 -> {
                int k = near(1);
                due("keep(" + k + ")", x.keep(k), o.keep(k));
            }
            case 12 -> {
                int k = near(1);
                due("back(" + k + ")", x.back(k), o.back(k));
            }
            default -> {
                if (often(3)) {
                    due("go()", x.go(), o.go());
                } else {
                    due("content()", x.content(), o.content());
                }
            }
        }
    }

    private void askThings() {
        int b = near(1);
        int i = near(6);
        int n = near(14);
        due("thing", x.thing(b, i), o.thing(b, i));
        due("match", x.match(b, i), o.match(b, i));
        due("odd", x.odd(), o.odd());
        due("third(" + i + ")", x.third(i), o.third(i));
        due("rule", x.rule(n), o.rule(n));
        due("kind", x.kind(i, n), o.kind(i, n));
        due("colour", x.colour(i), o.colour(i));
        due("mirror", x.mirror(n), o.mirror(n));
        due("work", x.work(n, b), o.work(n, b));
        due("count(" + n + ")", x.count(n), o.count(n));
        due("quarrel(" + i + ")", x.quarrel(i), o.quarrel(i));
        due("bend()", x.bend(), o.bend());
        due("shops", x.shops(b, 0), o.shops(b, 0));
        due("shops", x.shops(b, 1), o.shops(b, 1));
    }

    private void askRuns() {
        int n = near(24);
        int b = near(1);
        int i = near(5);
        int w = near(11);
        due("after(" + n + ", " + b + ", " + i + ")", x.after(n, b, i), o.after(n, b, i));
        due("paid(" + n + ", " + b + ")", x.paid(n, b), o.paid(n, b));
        due("owes(" + n + ", " + b + ")", x.owes(n, b), o.owes(n, b));
        due("fate(" + w + ")", x.fate(w), o.fate(w));
        due("uneven(" + b + ")", x.uneven(b), o.uneven(b));
    }

    private void askChoices() {
        int b = near(1);
        int i = near(5);
        int what = near(2);
        int m = near(3);
        due("gain", x.gain(b, i, m + 1), o.gain(b, i, m + 1));
        due("begin(" + b + ", " + i + ", " + what + ")", x.begin(b, i, what), o.begin(b, i, what));
        due("waits(" + b + ", " + i + ")", x.waits(b, i), o.waits(b, i));
        due("vex(" + b + ", " + what + ")", x.vex(b, what), o.vex(b, what));
        due("cannot(" + what + ")", x.cannot(what), o.cannot(what));
        due("fire(" + b + ", " + i + ", " + m + ")", x.fire(b, i, m), o.fire(b, i, m));
        due("fire(" + b + ", " + i + ", 1)", x.fire(b, i, 1), o.fire(b, i, 1));
        due("plan(" + m + ", 0)", x.plan(m, 0), o.plan(m, 0));
        int j = 10 + near(5);
        due("plan(" + m + ", " + j + ")", x.plan(m, j), o.plan(m, j));
    }

    private void askPast() {
        int i = near(4);
        int m = near(23);
        int what = near(2);
        due("histories(" + m + ")", x.histories(m), o.histories(m));
        due("began(" + i + ", " + m + ", " + what + ")", x.began(i, m, what), o.began(i, m, what));
    }

    private void sheets() {
        int k = near(1);
        int lane = near(2);
        int n = near(40);
        if (!often(3)) {
            due("sheet(" + k + ", " + lane + ", " + n + ")", x.sheet(k, lane, n), o.sheet(k, lane, n));
        }
        for (int c = 0; c < below(13); c += 3) {
            int[] cells = {near(1), near(4), thing()};
            for (int p = 0; p < 3; p++) {
                due("lay(" + k + ", " + (c + p) + ", " + cells[p] + ")", x.lay(k, c + p, cells[p]), o.lay(k, c + p, cells[p]));
            }
        }
        int f = often(3) ? 0 : near(39);
        int some = often(3) ? below(5) : near(13);
        due("read(" + k + ", " + lane + ", " + f + ", " + some + ")", x.read(k, lane, f, some), o.read(k, lane, f, some));
        due("torn()", x.torn(), o.torn());
    }
}

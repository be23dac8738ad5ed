import java.util.List;

/**
 * "What is refused changes nothing (but THE TAPE, as told)": two objects are made by the same calls, one of them is
 * asked once more, and from then on both must answer alike. Calls that only ask must change nothing either.
 */
public final class RefusedTest {
    private static final int MIN = Integer.MIN_VALUE, MAX = Integer.MAX_VALUE;

    private interface Call {
        long on(HouseTwins x);
    }

    private interface Maker {
        HouseTwins make();
    }

    public static void main(String[] args) {
        refusedOfNumbers();
        refusedByWhatThereIs();
        refusedAsFull();
        firstThatFits();
        textsWithFaults();
        asks();
        Check.finish("RefusedTest");
    }

    /** Something of everything, each different from what there is at first. */
    private static HouseTwins some() {
        HouseTwins x = Check.told("lots 6;bend 4;pull 2;price 1 2 3 4;cost 0 1 2 3 4 5;lack 1 tower;twin house garden;paint 0 1;right shop;"
                + "thing 0 0 house 0 left;thing 1 1 garden 1 right;work 3 0 2 shop 0 left;work 5 1 3 nothing;");
        x.want(0, 1);
        x.want(1, 4);
        x.saw(0, 0, 3, true);
        x.keep(0);
        x.put(0, 5, 4);
        x.saw(1, 1, 2, false);
        x.sheet(0, 0, 7);
        x.lay(0, 2, 3);
        x.lay(0, 4, 2);
        x.sheet(1, 1, 0);
        x.sheet(2, 2, 9);
        x.lay(2, 5, 8);
        x.read(0, 1, 0, 1);
        Check.lay(x, "pull 7;");
        return x;
    }

    private static HouseTwins full() {
        HouseTwins x = Check.told("lots 8;");
        for (int n = 0; n < 12; n++) {
            x.plot(n, n & 1, n & 7, 1 + 8 * (n & 3));
            x.saw(n & 1, n & 7, 23 - n, true);
        }
        for (int n = 0; n < 6; n++) {
            x.want(n, 1 + n % 5);
        }
        for (int n = 0; n < 50; n++) {
            x.feed(0x2020202020202020L);
        }
        return x;
    }

    private static void due(String call, Maker maker, Call refused, long answer) {
        HouseTwins one = maker.make();
        Check.due(call, refused.on(one), answer);
        same(call, maker, one);
    }

    private static void same(String call, Maker maker, HouseTwins asked) {
        List<String> got = Probe.everything(asked);
        List<String> want = Probe.everything(maker.make());
        Check.due(call + ": as many answers", got.size(), want.size());
        for (int n = 0; n < Math.min(got.size(), want.size()); n++) {
            Check.due(call + " changed <" + want.get(n) + "> to <" + got.get(n) + ">", got.get(n).equals(want.get(n)) ? 0 : 1, 0);
        }
    }

    private static void bad(String call, Call refused) {
        due(call, RefusedTest::some, refused, Check.BAD);
    }

    private static void refusedOfNumbers() {
        for (int n : new int[] {-1, 8, MIN, MAX}) {
            bad("end(" + n + ")", x -> x.end(n));
        }
        for (int b : new int[] {-1, 2, MIN, MAX}) {
            bad("put(" + b + ", 0, 1)", x -> x.put(b, 0, 1));
            bad("plot(5, " + b + ", 0, 1)", x -> x.plot(5, b, 0, 1));
            bad("saw(" + b + ", 0, 0, true)", x -> x.saw(b, 0, 0, true));
            bad("keep(" + b + ")", x -> x.keep(b));
            bad("back(" + b + ")", x -> x.back(b));
        }
        for (int i : new int[] {-1, 6, 7, 8, MIN, MAX}) {
            bad("put(0, " + i + ", 1)", x -> x.put(0, i, 1));
            bad("put(1, " + i + ", 1)", x -> x.put(1, i, 1));
            bad("plot(5, 1, " + i + ", 1)", x -> x.plot(5, 1, i, 1));
            bad("want(" + i + ", 1)", x -> x.want(i, 1));
            bad("saw(1, " + i + ", 0, true)", x -> x.saw(1, i, 0, true));
        }
        for (int t : new int[] {-1, 6, 7, 8, 16, 24, 32, 40, 62, 63, 64, 65, MIN, MIN + 1, MAX}) {
            bad("put(0, 0, " + t + ")", x -> x.put(0, 0, t));
            bad("plot(5, 0, 0, " + t + ")", x -> x.plot(5, 0, 0, t));
        }
        for (int m : new int[] {-1, 0, 4, 24, MIN, MAX}) {
            bad("plot(" + m + ", 0, 0, 1)", x -> x.plot(m, 0, 0, 1));
        }
        for (int m : new int[] {-1, 24, MIN, MAX}) {
            bad("saw(0, 0, " + m + ", false)", x -> x.saw(0, 0, m, false));
        }
        for (int k : new int[] {-1, 0, 6, MIN, MAX}) {
            bad("want(0, " + k + ")", x -> x.want(0, k));
        }
        for (int k : new int[] {-1, 4, MIN, MAX}) {
            bad("sheet(" + k + ", 0, 1)", x -> x.sheet(k, 0, 1));
            bad("lay(" + k + ", 0, 1)", x -> x.lay(k, 0, 1));
            bad("read(" + k + ", 0, 0, 1)", x -> x.read(k, 0, 0, 1));
        }
        for (int lane : new int[] {-1, 3, MIN, MAX}) {
            bad("sheet(0, " + lane + ", 1)", x -> x.sheet(0, lane, 1));
            bad("read(0, " + lane + ", 0, 1)", x -> x.read(0, lane, 0, 1));
        }
        for (int n : new int[] {41, 42, MAX}) {
            bad("sheet(0, 0, " + n + ")", x -> x.sheet(0, 0, n));
        }
        for (int n : new int[] {-1, 14, MIN, MAX}) {
            bad("read(0, 0, 0, " + n + ")", x -> x.read(0, 0, 0, n));
        }
    }

    private static void refusedByWhatThereIs() {
        due("back(1): STATE", RefusedTest::some, x -> x.back(1), Check.STATE);
        for (int n : new int[] {-1, -40, MIN}) {
            due("sheet(0, 0, " + n + ")", RefusedTest::some, x -> x.sheet(0, 0, n), -14);
            due("sheet(3, 2, " + n + ")", RefusedTest::some, x -> x.sheet(3, 2, n), -14);
        }
        for (int i : new int[] {-1, 0, 39, 40, MIN, MAX}) {
            due("lay(3, " + i + ", 1)", RefusedTest::some, x -> x.lay(3, i, 1), -11);
        }
        for (int i : new int[] {-1, 7, 39, 40, MIN, MAX}) {
            due("lay(0, " + i + ", 1)", RefusedTest::some, x -> x.lay(0, i, 1), -12);
            due("lay(1, " + i + ", 1)", RefusedTest::some, x -> x.lay(1, i, 1), -12);
        }
        due("lay(1, 0, 1)", RefusedTest::some, x -> x.lay(1, 0, 1), -12);
        // THING 0 of SHEET 2 is fine, THING 1 is not: neither is put, and torn() still tells of the read ahead.
        due("read(2, 2, 0, 3)", RefusedTest::some, x -> x.read(2, 2, 0, 3), -21);
        due("read(2, 2, 3, 1)", RefusedTest::some, x -> x.read(2, 2, 3, 1), -20);
        due("read(2, 2, 0, 13): torn behind", RefusedTest::some, x -> x.read(2, 2, 0, 13), -21);
    }

    private static void refusedAsFull() {
        due("feed: 408", RefusedTest::full, x -> x.feed(0x70756c6c20393b20L), Check.FULL);
        due("plot: the 13th", RefusedTest::full, x -> x.plot(11, 0, 0, 1), Check.FULL);
        due("want: the 7th", RefusedTest::full, x -> x.want(0, 1), Check.FULL);
        due("saw: the 13th", RefusedTest::full, x -> x.saw(0, 0, 0, false), Check.FULL);
        for (int n = 393; n < 400; n++) {
            int bytes = n;
            Maker nearlyFull = () -> {
                HouseTwins x = full();
                x.end(bytes);
                return x;
            };
            due("feed on " + n, nearlyFull, x -> x.feed(0x2020202020202020L), Check.FULL);
        }
    }

    /** "The first that fits": BAD ahead of STATE, FULL, NONE. */
    private static void firstThatFits() {
        due("plot: BAD and FULL", RefusedTest::full, x -> x.plot(10, 0, 0, 1), Check.BAD);
        due("plot: BAD and FULL", RefusedTest::full, x -> x.plot(11, 0, 8, 1), Check.BAD);
        due("plot: BAD and FULL", RefusedTest::full, x -> x.plot(11, 0, 0, 6), Check.BAD);
        due("want: BAD and FULL", RefusedTest::full, x -> x.want(8, 1), Check.BAD);
        due("want: BAD and FULL", RefusedTest::full, x -> x.want(0, 0), Check.BAD);
        due("saw: BAD and FULL", RefusedTest::full, x -> x.saw(0, 0, 24, true), Check.BAD);
        due("saw: BAD and FULL", RefusedTest::full, x -> x.saw(2, 0, 0, true), Check.BAD);
        due("back: BAD and STATE", HouseTwins::new, x -> x.back(2), Check.BAD);
        due("waits: BAD and STATE", RefusedTest::some, x -> x.waits(0, 6), Check.BAD);
        due("fire: BAD and STATE", RefusedTest::some, x -> x.fire(0, 1, 2), Check.BAD);
        due("plan: BAD and STATE", HouseTwins::new, x -> x.plan(4, 0), Check.BAD);
        due("plan: BAD and STATE", HouseTwins::new, x -> x.plan(0, 1), Check.BAD);
        due("began: BAD and STATE", RefusedTest::some, x -> x.began(1, 24, 0), Check.BAD);
        due("began: BAD and STATE", RefusedTest::some, x -> x.began(1, 0, 3), Check.BAD);
        due("third: BAD and NONE", RefusedTest::some, x -> x.third(6), Check.BAD);
        due("begin: BAD and NONE", HouseTwins::new, x -> x.begin(0, 0, 2), Check.BAD);
        due("uneven: BAD and NONE", HouseTwins::new, x -> x.uneven(2), Check.BAD);
        due("sheet: BAD and SIZE", RefusedTest::some, x -> x.sheet(4, 0, -1), Check.BAD);
        due("sheet: BAD and SIZE", RefusedTest::some, x -> x.sheet(0, 3, -1), Check.BAD);
        due("lay: BAD and INDEX", RefusedTest::some, x -> x.lay(4, -1, 0), Check.BAD);
        due("lay: NULL and INDEX", RefusedTest::some, x -> x.lay(3, -1, 0), -11);
        due("read: BAD and NULL", RefusedTest::some, x -> x.read(3, 0, 0, 14), Check.BAD);
        due("read: BAD and CAST", RefusedTest::some, x -> x.read(0, 3, 0, 1), Check.BAD);
    }

    /** Of a text with a FAULT only THE TAPE and fault() know. */
    private static void textsWithFaults() {
        String[] texts = {"lots 2;bend 0;pull 9;price 9 9 9 9;cost 0 9 9 9 9 9;taste 1 9 9 9 9 9;lack 0 house;@",
            "twin shop tower;paint 2 3;right house;thing 0 0 shop 3 right;work 0 0 0 nothing;hut", "pull 3;pull", "pull 3;pull 3;",
            "pull 3;bend 7;", "pull 3;thing 0 5 nothing;"};
        int[] places = {texts[0].length() - 1, texts[1].length() - 3, 7, 7, 12, 25};
        int[] faults = {1, 2, 4, 4, 3, 6};
        for (int n = 0; n < texts.length; n++) {
            String text = texts[n];
            HouseTwins x = some();
            x.end(0);
            Check.due("text() of <" + text + ">", Check.tell(x, text), -10 - places[n]);
            Check.due("fault() of <" + text + ">", x.fault(), faults[n]);
            Check.due("the tape is empty behind <" + text + ">", x.count(5), 0);
            // The other one's tape is emptied too: only fault() may differ.
            List<String> got = Probe.everything(x);
            HouseTwins y = some();
            y.end(0);
            List<String> want = Probe.everything(y);
            Check.due("as many answers", got.size(), want.size());
            for (int a = 1; a < Math.min(got.size(), want.size()); a++) {
                Check.due("<" + text + "> changed <" + want.get(a) + "> to <" + got.get(a) + ">", got.get(a).equals(want.get(a)) ? 0 : 1, 0);
            }
        }
    }

    private static void ask(String call, Call asked) {
        HouseTwins one = some();
        asked.on(one);
        same(call, RefusedTest::some, one);
    }

    private static void asks() {
        ask("fault", x -> x.fault());
        ask("rule", x -> x.rule(0));
        ask("kind", x -> x.kind(1, 0));
        ask("colour", x -> x.colour(1));
        ask("mirror", x -> x.mirror(1));
        ask("work", x -> x.work(0, 0));
        ask("thing", x -> x.thing(0, 0));
        ask("match", x -> x.match(0, 0));
        ask("odd", x -> x.odd());
        ask("third", x -> x.third(0));
        ask("after", x -> x.after(24, 0, 0));
        ask("paid", x -> x.paid(24, 0));
        ask("owes", x -> x.owes(24, 0));
        ask("fate", x -> x.fate(0));
        ask("uneven", x -> x.uneven(0));
        ask("gain", x -> x.gain(0, 0, 1));
        ask("begin", x -> x.begin(0, 0, 0));
        ask("waits", x -> x.waits(0, 0));
        ask("vex", x -> x.vex(0, 0));
        ask("plan", x -> x.plan(0, 0));
        ask("cannot", x -> x.cannot(1));
        ask("fire", x -> x.fire(0, 0, 0));
        ask("quarrel", x -> x.quarrel(0));
        ask("bend", x -> x.bend());
        ask("shops", x -> x.shops(0, 1));
        ask("histories", x -> x.histories(23));
        ask("began", x -> x.began(0, 23, 0));
        ask("torn", x -> x.torn());
        ask("count", x -> x.count(0));
    }
}

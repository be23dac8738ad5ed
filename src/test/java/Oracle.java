import java.util.ArrayList;
import java.util.Arrays;
import java.util.HashSet;
import java.util.List;
import java.util.Set;

/**
 * A second telling of the document, as plain as can be and without regard to cost: it tries all plans,
 * lists all histories, keeps every month of a run, and lets the machine find the faults of sheets.
 */
final class Oracle {
    static final int BAD = -1, STATE = -2, FULL = -3, NONE = -4;
    private static final List<String> KINDS = List.of("nothing", "house", "garden", "shop", "tower", "shrine");

    private record Thing(int kind, int colour, boolean right) {
        static final Thing NOTHING = new Thing(0, 0, false);

        static Thing of(int n) {
            if (n == 0) {
                return NOTHING;
            }
            for (int k = 1; k <= 5; k++) {
                for (int c = 0; c <= 3; c++) {
                    for (int door = 0; door <= 1; door++) {
                        Thing t = new Thing(k, c, door == 1);
                        if (t.number() == n) {
                            return t;
                        }
                    }
                }
            }
            return null;
        }

        int number() {
            return kind + 8 * colour + (right ? 32 : 0);
        }
    }

    private record Work(int month, int bank, int lot, Thing thing) {
    }

    private record Seen(int bank, int lot, int month, boolean something) {
    }

    private record History(int beginner, int month, int month0, int month1) {
    }

    private static final class Fault extends RuntimeException {
        private static final long serialVersionUID = 1L;
        final int fault;
        final int place;

        Fault(int fault, int place) {
            this.fault = fault;
            this.place = place;
        }
    }

    private static final class State {
        Thing[][] things = new Thing[2][8];
        List<Work> works = new ArrayList<>();
        List<int[]> wants = new ArrayList<>();
        List<Seen> seen = new ArrayList<>();

        State() {
            for (Thing[] row : things) {
                Arrays.fill(row, Thing.NOTHING);
            }
        }

        State copy() {
            State s = new State();
            s.things = new Thing[][] {things[0].clone(), things[1].clone()};
            s.works = new ArrayList<>(works);
            s.wants = new ArrayList<>(wants);
            s.seen = new ArrayList<>(seen);
            return s;
        }

        int some() {
            int n = 0;
            for (Thing[] row : things) {
                for (Thing t : row) {
                    n += t.equals(Thing.NOTHING) ? 0 : 1;
                }
            }
            return n;
        }
    }

    private static final class Law {
        int lots = 5;
        int bend = 3;
        int pull = 1;
        int[] price = {1, 1, 1, 1};
        int[][] cost = {{0, 5, 5, 5, 5, 5}, {0, 5, 5, 5, 5, 5}};
        int[][] taste = {{0, 3, 3, 3, 3, 3}, {0, 3, 3, 3, 3, 3}};
        boolean[][] lack = new boolean[2][6];
        int[] twin = {0, 1, 2, 3, 4, 5};
        int[] paint = {0, 1, 2, 3};
        boolean[] right = new boolean[6];
    }

    private String tape = "";
    private Law law = new Law();
    private State now = new State();
    private final State[] images = new State[2];
    private final Object[] sheets = new Object[4];
    private int textFault = 0;
    private int torn = 0;

    // ---- the text

    int feed(long v) {
        if (tape.length() + 8 > 400) {
            return FULL;
        }
        StringBuilder s = new StringBuilder(tape);
        for (byte b : java.nio.ByteBuffer.allocate(8).putLong(v).array()) {
            s.append((char) (b & 255));
        }
        tape = s.toString();
        return tape.length();
    }

    int end(int n) {
        if (n < 0 || n > tape.length()) {
            return BAD;
        }
        int had = tape.length();
        tape = tape.substring(0, n);
        return had;
    }

    private static final class Parser {
        final String tape;
        int at = 0;
        int from = 0;
        final Law law = new Law();
        final State state = new State();
        final Set<String> told = new HashSet<>();
        int lines = 0;

        Parser(String tape) {
            this.tape = tape;
        }

        String next() {
            while (at < tape.length() && tape.charAt(at) == ' ') {
                at++;
            }
            from = at;
            if (at == tape.length()) {
                return "";
            }
            String rest = tape.substring(at);
            String token = rest.startsWith(";") ? ";" : rest.replaceAll("(?s)^([a-z]*|[0-9]*).*$", "$1");
            if (token.isEmpty() && rest.matches("(?s)^[0-9].*")) {
                token = rest.replaceAll("(?s)^([0-9]+).*$", "$1");
            }
            if (token.isEmpty() || token.matches("[0-9]{3,}")) {
                throw new Fault(1, from);
            }
            at += token.length();
            return token;
        }

        int number(int least, int most) {
            String t = next();
            if (!t.matches("[0-9]+")) {
                throw new Fault(2, from);
            }
            int n = Integer.parseInt(t);
            if (n < least || n > most) {
                throw new Fault(3, from);
            }
            return n;
        }

        int name(int first, List<String> names) {
            int n = names.indexOf(next());
            if (n < first) {
                throw new Fault(2, from);
            }
            return n;
        }

        void once(String what) {
            if (!told.add(what)) {
                throw new Fault(4, from);
            }
        }

        Thing what() {
            int k = name(0, KINDS);
            if (k == 0) {
                return Thing.NOTHING;
            }
            int c = number(0, 3);
            return new Thing(k, c, name(0, List.of("left", "right")) == 1);
        }

        void pair(int[] twins, String what, boolean kinds) {
            int one = kinds ? name(1, KINDS) : number(0, 3);
            once(what + one);
            int other = kinds ? name(1, KINDS) : number(0, 3);
            once(what + other);
            twins[one] = other;
            twins[other] = one;
        }

        void line(String name) {
            switch (name) {
                case "lots" -> {
                    once(name);
                    law.lots = number(1, 8);
                }
                case "bend" -> {
                    once(name);
                    law.bend = number(0, 6);
                }
                case "pull" -> {
                    once(name);
                    law.pull = number(0, 20);
                }
                case "price" -> {
                    once(name);
                    for (int q = 0; q < 4; q++) {
                        law.price[q] = number(1, 9);
                    }
                }
                case "cost", "taste" -> {
                    int b = number(0, 1);
                    once(name + b);
                    for (int k = 1; k <= 5; k++) {
                        (name.equals("cost") ? law.cost : law.taste)[b][k] = number(0, 20);
                    }
                }
                case "lack" -> {
                    int b = number(0, 1);
                    law.lack[b][name(1, KINDS)] = true;
                }
                case "twin" -> pair(law.twin, name, true);
                case "paint" -> pair(law.paint, name, false);
                case "right" -> law.right[name(1, KINDS)] = true;
                case "thing" -> {
                    int b = number(0, 1);
                    int i = number(0, 7);
                    once("thing" + b + i);
                    state.things[b][i] = what();
                }
                case "work" -> {
                    if (state.works.size() == 12) {
                        throw new Fault(5, from);
                    }
                    int least = state.works.isEmpty() ? 0 : state.works.get(state.works.size() - 1).month();
                    int m = number(least, 23);
                    int b = number(0, 1);
                    int i = number(0, 7);
                    state.works.add(new Work(m, b, i, what()));
                }
                default -> throw new Fault(2, from);
            }
            if (!next().equals(";")) {
                throw new Fault(2, from);
            }
            lines++;
        }

        void all() {
            for (String t = next(); !t.isEmpty(); t = next()) {
                line(t);
            }
            for (int i = law.lots; i < 8; i++) {
                int lot = i;
                if (told.contains("thing0" + i) || told.contains("thing1" + i) || state.works.stream().anyMatch(w -> w.lot() == lot)) {
                    throw new Fault(6, tape.length());
                }
            }
        }
    }

    int text() {
        Parser p = new Parser(tape);
        tape = "";
        try {
            p.all();
        } catch (Fault f) {
            textFault = f.fault;
            return -10 - f.place;
        }
        textFault = 0;
        law = p.law;
        now = p.state;
        Arrays.fill(images, null);
        return p.lines;
    }

    int fault() {
        return textFault;
    }

    int rule(int what) {
        if (what >= 10 && what <= 13) {
            return law.price[what - 10];
        }
        return what == 0 ? law.lots : what == 1 ? law.bend : what == 2 ? law.pull : what == 3 ? now.works.size() : BAD;
    }

    int kind(int k, int what) {
        if (k < 0 || k > 5) {
            return BAD;
        }
        return switch (what) {
            case 0 -> law.twin[k];
            case 1 -> law.right[k] ? 1 : 0;
            case 10, 11 -> cost(what - 10, k);
            case 20, 21 -> law.taste[what - 20][k];
            case 30, 31 -> law.lack[what - 30][k] ? 1 : 0;
            default -> BAD;
        };
    }

    int colour(int c) {
        return c < 0 || c > 3 ? BAD : law.paint[c];
    }

    int mirror(int thing) {
        Thing t = Thing.of(thing);
        return t == null ? BAD : mirrorOf(t).number();
    }

    private Thing mirrorOf(Thing t) {
        if (t.kind() == 0) {
            return t;
        }
        int twin = law.twin[t.kind()];
        boolean stays = law.right[t.kind()] || law.right[twin];
        return new Thing(twin, law.paint[t.colour()], stays == t.right());
    }

    private int cost(int b, int k) {
        return k == 0 ? law.pull : law.cost[b][k];
    }

    int work(int w, int what) {
        if (w < 0 || w >= now.works.size() || what < 0 || what > 3) {
            return BAD;
        }
        Work it = now.works.get(w);
        return new int[] {it.month(), it.bank(), it.lot(), it.thing().number()}[what];
    }

    // ---- what there is

    private boolean noLot(int b, int i) {
        return b < 0 || b > 1 || i < 0 || i >= law.lots;
    }

    int thing(int b, int i) {
        return noLot(b, i) ? BAD : now.things[b][i].number();
    }

    int put(int b, int i, int thing) {
        if (noLot(b, i) || Thing.of(thing) == null) {
            return BAD;
        }
        int was = now.things[b][i].number();
        now.things[b][i] = Thing.of(thing);
        return was;
    }

    private int other(int bend, int b, int i) {
        for (int j = 0; j < law.lots; j++) {
            if (b == 0 ? j == i + bend - 3 : i == j + bend - 3) {
                return j;
            }
        }
        return NONE;
    }

    int match(int b, int i) {
        return noLot(b, i) ? BAD : other(law.bend, b, i);
    }

    private boolean even(Thing[][] things, int i) {
        return things[0][i].equals(mirrorOf(things[1][other(law.bend, 0, i)]));
    }

    private int odd(Thing[][] things) {
        int bits = 0;
        for (int i = 0; i < law.lots; i++) {
            if (match(0, i) != NONE && !even(things, i)) {
                bits += 1 << i;
            }
        }
        return bits;
    }

    int odd() {
        return odd(now.things);
    }

    int third(int i) {
        int j = match(0, i);
        return j < 0 ? j : mirrorOf(now.things[1][j]).number();
    }

    // ---- runs: every month is kept

    private final class Story {
        final Thing[][][] things = new Thing[25][][];
        final int[][] paid = new int[25][2];
        final int[][] owed = new int[25][2];
        final int[] fates = new int[now.works.size()];

        Story() {
            Thing[][] t = now.copy().things;
            int[] sum = new int[2];
            int[] latest = new int[8];
            Arrays.fill(latest, -1);
            keep(0, t, sum, latest);
            for (int month = 0; month < 24; month++) {
                Set<String> worked = new HashSet<>();
                for (int w = 0; w < fates.length; w++) {
                    if (now.works.get(w).month() == month) {
                        fates[w] = work(now.works.get(w), t, sum, latest, worked);
                    }
                }
                for (int i = 0; i < law.lots; i++) {
                    int j = match(0, i);
                    if (j == NONE || even(t, i) || worked.contains("0 " + i) || worked.contains("1 " + j) || latest[i] < 0) {
                        continue;
                    }
                    int b = 1 - latest[i];
                    Thing made = b == 0 ? mirrorOf(t[1][j]) : mirrorOf(t[0][i]);
                    t[b][b == 0 ? i : j] = made;
                    sum[b] += cost(b, made.kind());
                }
                keep(month + 1, t, sum, latest);
            }
        }

        private int work(Work w, Thing[][] t, int[] sum, int[] latest, Set<String> worked) {
            int b = w.bank();
            int i = w.lot();
            int k = w.thing().kind();
            int j = match(b, i);
            if (law.lack[b][k] || j != NONE && law.lack[1 - b][law.twin[k]]) {
                return 2;
            }
            if (j != NONE && worked.contains((1 - b) + " " + j) && !t[1 - b][j].equals(mirrorOf(w.thing()))) {
                return 1;
            }
            t[b][i] = w.thing();
            sum[b] += cost(b, k);
            worked.add(b + " " + i);
            if (j != NONE) {
                latest[b == 0 ? i : j] = b;
            }
            return 0;
        }

        private void keep(int n, Thing[][] t, int[] sum, int[] latest) {
            things[n] = new Thing[][] {t[0].clone(), t[1].clone()};
            paid[n] = sum.clone();
            for (int i = 0; i < law.lots; i++) {
                if (match(0, i) != NONE && !even(t, i) && latest[i] >= 0) {
                    int b = 1 - latest[i];
                    owed[n][b] += 1 << (b == 0 ? i : match(0, i));
                }
            }
        }
    }

    int after(int n, int b, int i) {
        return n < 0 || n > 24 || noLot(b, i) ? BAD : new Story().things[n][b][i].number();
    }

    int paid(int n, int b) {
        return n < 0 || n > 24 || noLot(b, 0) ? BAD : new Story().paid[n][b];
    }

    int owes(int n, int b) {
        return n < 0 || n > 24 || noLot(b, 0) ? BAD : new Story().owed[n][b];
    }

    int fate(int w) {
        return w < 0 || w >= now.works.size() ? BAD : new Story().fates[w];
    }

    int uneven(int what) {
        if (what != 0 && what != 1) {
            return BAD;
        }
        Story s = new Story();
        for (int n = 1; n <= 24; n++) {
            for (int i = 0; i < law.lots; i++) {
                if ((odd(s.things[n]) & 1 << i) != 0) {
                    return what == 0 ? n - 1 : i;
                }
            }
        }
        return NONE;
    }

    int go() {
        Story s = new Story();
        now.things = s.things[24];
        now.works.clear();
        return (int) Arrays.stream(s.fates).filter(f -> f == 0).count();
    }

    int plot(int month, int b, int i, int thing) {
        if (month < 0 || month > 23 || noLot(b, i) || Thing.of(thing) == null) {
            return BAD;
        }
        if (now.works.stream().anyMatch(w -> w.month() > month)) {
            return BAD;
        }
        if (now.works.size() == 12) {
            return FULL;
        }
        now.works.add(new Work(month, b, i, Thing.of(thing)));
        return now.works.size();
    }

    // ---- to begin or to wait

    int gain(int b, int i, int k) {
        if (noLot(b, i) || k < 1 || k > 5) {
            return BAD;
        }
        return 1000 + law.taste[b][k] - law.cost[b][k] - law.taste[b][now.things[b][i].kind()];
    }

    private boolean may(int b, int i, int k) {
        return !law.lack[b][k] && (match(b, i) == NONE || !law.lack[1 - b][law.twin[k]]);
    }

    int begin(int b, int i, int what) {
        if (noLot(b, i) || what != 0 && what != 1) {
            return BAD;
        }
        for (int gain = 1100; gain > 1000; gain--) {
            for (int k = 1; k <= 5; k++) {
                if (gain(b, i, k) == gain && may(b, i, k)) {
                    return what == 0 ? k : gain - 1000;
                }
            }
        }
        return NONE;
    }

    int waits(int b, int i) {
        int j = match(b, i);
        if (j < 0) {
            return j == NONE ? STATE : BAD;
        }
        int k = begin(1 - b, j, 0);
        return k == NONE ? 1000 : gain(b, i, law.twin[k]);
    }

    int vex(int b, int what) {
        if (b < 0 || b > 1 || what < 0 || what > 2) {
            return BAD;
        }
        List<int[]> all = new ArrayList<>();
        for (int i = 0; i < law.lots; i++) {
            for (int k = 1; k <= 5; k++) {
                int j = match(b, i);
                if (j != NONE && may(b, i, k) && now.things[b][i].kind() != k) {
                    int twin = law.twin[k];
                    int there = now.things[1 - b][j].kind();
                    int v = law.cost[1 - b][twin] + law.taste[1 - b][there] - law.taste[1 - b][twin];
                    all.add(new int[] {-v, law.cost[b][k], i, k});
                }
            }
        }
        all.sort(Arrays::compare);
        if (all.isEmpty()) {
            return NONE;
        }
        int[] best = all.get(0);
        return what == 0 ? 1000 - best[0] : best[what + 1];
    }

    // ---- wants

    int want(int i, int k) {
        if (noLot(0, i) || k < 1 || k > 5) {
            return BAD;
        }
        if (now.wants.size() == 6) {
            return FULL;
        }
        now.wants.add(new int[] {i, k});
        return now.wants.size();
    }

    int content() {
        int n = now.wants.size();
        now.wants.clear();
        return n;
    }

    private int leastCost;
    private int[] leastMonths;

    private void tryMonths(int first, int j, int[] months, int sum) {
        if (sum > leastCost || sum == leastCost && leastMonths != null && j == now.wants.size()) {
            return;
        }
        if (j == now.wants.size()) {
            leastCost = sum;
            leastMonths = months.clone();
            return;
        }
        int k = now.wants.get(j)[1];
        int weight = law.cost[0][k] + law.cost[1][law.twin[k]];
        for (int m = first; m < first + 12; m++) {
            boolean free = true;
            for (int p = 0; p < j; p++) {
                free &= months[p] != m;
            }
            if (free) {
                months[j] = m;
                tryMonths(first, j + 1, months, sum + law.price[m % 4] * weight);
            }
        }
    }

    int plan(int month, int what) {
        if (month < 0 || month > 3 || what != 0 && (what < 10 || what >= 10 + now.wants.size())) {
            return BAD;
        }
        if (now.wants.isEmpty()) {
            return STATE;
        }
        leastCost = Integer.MAX_VALUE;
        leastMonths = null;
        tryMonths(month, 0, new int[now.wants.size()], 0);
        return what == 0 ? leastCost : leastMonths[what - 10];
    }

    int cannot(int what) {
        if (what != 0 && what != 1) {
            return BAD;
        }
        int bits = 0;
        int times = 0;
        for (int[] want : now.wants) {
            boolean across = law.lack[1][law.twin[want[1]]];
            bits |= across || law.lack[0][want[1]] ? 1 << want[1] : 0;
            times += across ? 1 : 0;
        }
        int cheapest = 100;
        for (int k = 1; k <= 5; k++) {
            cheapest = law.lack[1][k] ? cheapest : Math.min(cheapest, law.cost[1][k]);
        }
        return what == 0 ? bits : cheapest == 100 ? NONE : times * cheapest;
    }

    // ---- fires, bends, shops

    int fire(int b, int i, int what) {
        if (noLot(b, i) || what != 0 && what != 1) {
            return BAD;
        }
        int k = now.things[b][i].kind();
        if (k == 0) {
            return STATE;
        }
        int j = match(b, i);
        int down = law.taste[b][k];
        if (j != NONE) {
            down += law.pull + law.taste[1 - b][now.things[1 - b][j].kind()];
        }
        boolean again = law.cost[b][k] <= down;
        return what == 0 ? (again ? 1 : 0) : again ? law.cost[b][k] : down;
    }

    int quarrel(int bend) {
        if (bend < 0 || bend > 6) {
            return BAD;
        }
        int n = 0;
        for (int b = 0; b < 2; b++) {
            for (int i = 0; i < law.lots; i++) {
                int j = other(bend, b, i);
                if (j == NONE) {
                    n += now.things[b][i].kind() == 0 ? 0 : 1;
                } else if (b == 0) {
                    n += now.things[0][i].equals(mirrorOf(now.things[1][j])) ? 0 : 1;
                }
            }
        }
        return n;
    }

    int bend() {
        int best = 6;
        for (int bend = 6; bend >= 0; bend--) {
            best = quarrel(bend) <= quarrel(best) ? bend : best;
        }
        return best;
    }

    int shops(int b, int what) {
        if (b < 0 || b > 1 || what != 0 && what != 1) {
            return BAD;
        }
        int shops = 0;
        int near = 0;
        for (int i = 0; i < law.lots; i++) {
            if (now.things[b][i].kind() == 3) {
                shops |= 1 << i;
                if (i > 0 && now.things[b][i - 1].kind() == 3 || i + 1 < law.lots && now.things[b][i + 1].kind() == 3) {
                    near |= 1 << i;
                }
            }
        }
        int fewest = 8;
        for (int gone = 0; gone < 256; gone++) {
            int left = shops & ~gone;
            if ((gone & ~shops) == 0 && (left & left << 1) == 0) {
                fewest = Math.min(fewest, Integer.bitCount(gone));
            }
        }
        return what == 0 ? near : fewest;
    }

    // ---- histories: all are listed

    int saw(int b, int i, int month, boolean something) {
        if (noLot(b, i) || month < 0 || month > 23) {
            return BAD;
        }
        if (now.seen.size() == 12) {
            return FULL;
        }
        now.seen.add(new Seen(b, i, month, something));
        return now.seen.size();
    }

    int forget() {
        int n = now.seen.size();
        now.seen.clear();
        return n;
    }

    private List<History> list(int i, int m) {
        List<History> all = new ArrayList<>();
        for (int who = 0; who < 2; who++) {
            for (int one = 0; one <= m; one++) {
                for (int two = one; two <= m && two <= one + 1; two++) {
                    History h = new History(who, one, who == 0 ? one : two, who == 0 ? two : one);
                    if (now.seen.stream().allMatch(s -> fits(s, i, h))) {
                        all.add(h);
                    }
                }
            }
        }
        return all;
    }

    private boolean fits(Seen s, int i, History h) {
        if (s.lot() != (s.bank() == 0 ? i : match(0, i))) {
            return true;
        }
        boolean there = s.month() >= (s.bank() == 0 ? h.month0() : h.month1());
        return there == s.something();
    }

    private boolean told(int i) {
        return match(0, i) != NONE && even(now.things, i) && now.things[0][i].kind() != 0;
    }

    long histories(int m) {
        if (m < 0 || m > 23) {
            return BAD;
        }
        long n = 1;
        for (int i = 0; i < law.lots; i++) {
            n *= told(i) ? list(i, m).size() : 1;
        }
        return n;
    }

    int began(int i, int m, int what) {
        if (noLot(0, i) || m < 0 || m > 23 || what < 0 || what > 2) {
            return BAD;
        }
        if (!told(i)) {
            return STATE;
        }
        List<History> all = list(i, m);
        if (all.isEmpty()) {
            return NONE;
        }
        if (what == 0) {
            long of1 = all.stream().filter(h -> h.beginner() == 1).count();
            return of1 == 0 ? 0 : of1 == all.size() ? 1 : NONE;
        }
        return what == 1 ? all.stream().mapToInt(History::month).min().getAsInt() : all.stream().mapToInt(History::month).max().getAsInt();
    }

    // ---- images, sheets: here the machine itself finds the faults

    int keep(int k) {
        if (k != 0 && k != 1) {
            return BAD;
        }
        int was = images[k] == null ? 0 : 1;
        images[k] = now.copy();
        return was;
    }

    int back(int k) {
        if (k != 0 && k != 1) {
            return BAD;
        }
        if (images[k] == null) {
            return STATE;
        }
        now = images[k].copy();
        return now.some();
    }

    int sheet(int k, int lane, int n) {
        if (k < 0 || k > 3 || lane < 0 || lane > 2 || n > 40) {
            return BAD;
        }
        try {
            sheets[k] = lane == 0 ? new byte[n] : lane == 1 ? new short[n] : new int[n];
        } catch (NegativeArraySizeException e) {
            return -14;
        }
        return 1;
    }

    int lay(int k, int i, int v) {
        if (k < 0 || k > 3) {
            return BAD;
        }
        try {
            if (sheets[k] instanceof byte[] row) {
                row[i] = (byte) v;
            } else if (sheets[k] instanceof short[] row) {
                row[i] = (short) v;
            } else {
                ((int[]) sheets[k])[i] = v;
            }
        } catch (NullPointerException e) {
            return -11;
        } catch (ArrayIndexOutOfBoundsException e) {
            return -12;
        }
        return 1;
    }

    private static int[] triple(byte[] bytes, short[] shorts, int[] ints, int lane, int c) {
        int[] t = new int[3];
        for (int p = 0; p < 3; p++) {
            t[p] = lane == 0 ? bytes[c + p] : lane == 1 ? shorts[c + p] : ints[c + p];
        }
        return t;
    }

    int read(int k, int lane, int f, int n) {
        if (k < 0 || k > 3 || lane < 0 || lane > 2 || n < 0 || n > 13) {
            return BAD;
        }
        List<int[]> whole = new ArrayList<>();
        int found = 0;
        try {
            for (int t = 0; t < n; t++) {
                byte[] bytes = lane == 0 ? (byte[]) sheets[k] : null;
                short[] shorts = lane == 1 ? (short[]) sheets[k] : null;
                int[] ints = lane == 2 ? (int[]) sheets[k] : null;
                whole.add(triple(bytes, shorts, ints, lane, f + 3 * t));
            }
        } catch (NullPointerException e) {
            found = 1;
        } catch (ArrayIndexOutOfBoundsException e) {
            found = 2;
        } catch (ClassCastException e) {
            found = 3;
        }
        for (int[] t : whole) {
            if (noLot(t[0], t[1]) || Thing.of(t[2]) == null) {
                return -20 - whole.indexOf(t);
            }
        }
        for (int[] t : whole) {
            now.things[t[0]][t[1]] = Thing.of(t[2]);
        }
        torn = found;
        return whole.size();
    }

    int torn() {
        return torn;
    }

    int count(int what) {
        int pairs = 0;
        for (int i = 0; i < law.lots; i++) {
            pairs += match(0, i) == NONE ? 0 : 1;
        }
        return switch (what) {
            case 0 -> now.some();
            case 1 -> pairs;
            case 2 -> now.wants.size();
            case 3 -> now.seen.size();
            case 4 -> (images[0] == null ? 0 : 1) + (images[1] == null ? 0 : 1);
            case 5 -> tape.length();
            case 6 -> sheets[0] == null ? NONE : java.lang.reflect.Array.getLength(sheets[0]);
            default -> BAD;
        };
    }
}

import java.math.BigInteger;
import java.util.ArrayDeque;
import java.util.ArrayList;
import java.util.Arrays;
import java.util.Deque;
import java.util.List;
import java.util.regex.Matcher;
import java.util.regex.Pattern;

/** The document once more, written otherwise: new states, lists, recursion, big numbers. RandomRunsTest compares. */
final class PlainHouse {
    private static final int BAD = -1, NO = -2, FULL = -3, NONE = -4;

    /** A state is never changed: each step gives a new one. */
    private record State(int day, List<Integer> wrong, List<Integer> gain) { }

    private record Lesson(int day, int a, int b) { }

    private record Laid(List<int[]> clocks, boolean[][] walls, List<Lesson> lessons, int fault) { }

    private final StringBuilder text = new StringBuilder();
    private Laid house;
    private State now;
    private final Deque<State> done = new ArrayDeque<>();
    private final Deque<State> kept = new ArrayDeque<>();
    private final List<int[]> heard = new ArrayList<>();

    PlainHouse() {
        settle(read("c0,100,10;c1,112,11;c2,95,10;c3,130,9;c4,80,12;"
            + "w0,1;w1,2;w3,4;l0,0,1;l1,1,2;l2,2,4;l6,0,4;l9,4,3;"));
    }

    private void settle(Laid laid) {
        house = laid;
        List<Integer> wrong = new ArrayList<>();
        List<Integer> gain = new ArrayList<>();
        for (int[] c : laid.clocks) {
            wrong.add(c[1] - 100);
            gain.add(c[2] - 10);
        }
        now = new State(0, wrong, gain);
        done.clear();
        kept.clear();
        heard.clear();
    }

    private static Laid read(String told) {
        Laid laid = new Laid(new ArrayList<>(), new boolean[7][7], new ArrayList<>(), NONE);
        Matcher item = Pattern.compile("([a-z])(\\d{1,3}(?:,\\d{1,3})*);").matcher(told);
        int place = 0;
        while (place < told.length()) {
            item.region(place, told.length());
            if (!item.lookingAt() || !add(laid, item.group(1), item.group(2))) {
                return new Laid(laid.clocks, laid.walls, laid.lessons, place);
            }
            place = item.end();
        }
        return laid;
    }

    private static boolean add(Laid laid, String letter, String list) {
        int[] n = Arrays.stream(list.split(",")).mapToInt(Integer::parseInt).toArray();
        int many = laid.clocks.size();
        if (letter.equals("c") && n.length == 3) {
            laid.clocks.add(n);
            return many < 7 && n[0] < 5 && n[1] <= 200 && n[2] <= 20;
        }
        if (letter.equals("w") && n.length == 2 && n[0] < many && n[1] < many && n[0] != n[1]) {
            laid.walls[n[0]][n[1]] = true;
            laid.walls[n[1]][n[0]] = true;
            return true;
        }
        if (letter.equals("l") && n.length == 3 && n[1] < many && n[2] < many && n[1] != n[2]) {
            laid.lessons.add(new Lesson(n[0], n[1], n[2]));
            return n[0] < 14 && laid.lessons.size() <= 9;
        }
        return false;
    }

    private int many() {
        return house.clocks.size();
    }

    private boolean is(int c) {
        return c >= 0 && c < many();
    }

    private boolean two(int a, int b) {
        return is(a) && is(b) && a != b;
    }

    private boolean teachable(State s, int b) {
        int kind = house.clocks.get(b)[0];
        return kind < 3 || kind == 4 && s.day % 7 == 6;
    }

    private static State with(State s, int c, int minutes) {
        List<Integer> wrong = new ArrayList<>(s.wrong);
        wrong.set(c, minutes > 600 ? 600 : minutes < -600 ? -600 : minutes);
        return new State(s.day, wrong, s.gain);
    }

    private State lesson(State s, int a, int b) {
        if (!teachable(s, b)) {
            return s;
        }
        int from = s.wrong.get(a);
        int own = s.wrong.get(b);
        int kind = house.clocks.get(b)[0];
        if (kind == 1) {
            int half = Math.abs(from - own) / 2;
            return with(s, b, from > own ? own + half : own - half);
        }
        return with(s, b, kind == 2 ? from + 1 : from);
    }

    private State day(State s, boolean walls) {
        for (Lesson l : house.lessons) {
            if (l.day == s.day % 14) {
                s = lesson(s, l.a, l.b);
            }
        }
        for (int a = 0; walls && a < many(); a++) {
            for (int b = a + 1; b < many(); b++) {
                int apart = s.wrong.get(a) - s.wrong.get(b);
                if (house.walls[a][b] && apart != 0) {
                    int sign = apart > 0 ? 1 : -1;
                    int wa = s.wrong.get(a);
                    int wb = s.wrong.get(b);
                    boolean both = Math.abs(apart) > 1;
                    s = with(s, a, sign > 0 || both ? wa - sign : wa);
                    s = with(s, b, sign < 0 || both ? wb + sign : wb);
                }
            }
        }
        for (int c = 0; c < many(); c++) {
            s = with(s, c, s.wrong.get(c) + s.gain.get(c));
        }
        return new State(s.day + 1, s.wrong, s.gain);
    }

    private State days(State s, int n) {
        return n == 0 ? s : days(day(s, true), n - 1);
    }

    private static int noon(State s) {
        List<Integer> order = new ArrayList<>(s.wrong);
        order.sort(null);
        return 600 + order.get((order.size() - 1) / 2);
    }

    private static State oiled(State s, int c, int times) {
        List<Integer> gain = new ArrayList<>(s.gain);
        int g = gain.get(c);
        gain.set(c, Integer.signum(g) * Math.max(0, Math.abs(g) - times));
        return new State(s.day, s.wrong, gain);
    }

    private static int most(State s) {
        return s.wrong.stream().mapToInt(Math::abs).max().getAsInt();
    }

    private void go(State next) {
        done.addLast(now);
        if (done.size() > 8) {
            done.removeFirst();
        }
        now = next;
    }

    int write(int letter) {
        if (letter < 32 || letter > 126) {
            return BAD;
        }
        if (text.length() == 200) {
            return FULL;
        }
        return text.append((char) letter).length();
    }

    int wipe() {
        int long_ = text.length();
        text.setLength(0);
        return long_;
    }

    int fault() {
        return read(text.toString()).fault;
    }

    int lay() {
        Laid laid = read(text.toString());
        if (laid.fault != NONE || laid.clocks.isEmpty()) {
            return NO;
        }
        settle(laid);
        return many();
    }

    int clock(int c, int what) {
        if (!is(c) || what < 0 || what > 3) {
            return BAD;
        }
        int walls = 0;
        for (boolean wall : house.walls[c]) {
            walls += wall ? 1 : 0;
        }
        return new int[] {house.clocks.get(c)[0], now.wrong.get(c) + 600, now.gain.get(c) + 10, walls}[what];
    }

    int wall(int a, int b) {
        return !two(a, b) ? BAD : house.walls[a][b] ? 1 : 0;
    }

    int noon() {
        return noon(now);
    }

    int pass(int n) {
        if (n < 1 || n > 20) {
            return BAD;
        }
        go(days(now, n));
        return now.day;
    }

    int teach(int a, int b) {
        if (!two(a, b)) {
            return BAD;
        }
        if (!teachable(now, b)) {
            return NO;
        }
        go(lesson(now, a, b));
        return now.wrong.get(b) + 600;
    }

    int set(int c) {
        if (!is(c)) {
            return BAD;
        }
        int was = now.wrong.get(c) + 600;
        go(with(now, c, 0));
        return was;
    }

    int oil(int c) {
        if (!is(c)) {
            return BAD;
        }
        if (now.gain.get(c) == 0) {
            return NO;
        }
        go(oiled(now, c, 1));
        return now.gain.get(c) + 10;
    }

    int undo() {
        if (done.isEmpty()) {
            return NO;
        }
        now = done.removeLast();
        return done.size();
    }

    int behind(int n, int c) {
        if (n < 0 || n > 60 || c != -1 && !is(c)) {
            return BAD;
        }
        State then = days(now, n);
        return c == -1 ? noon(then) : then.wrong.get(c) + 600;
    }

    private List<Integer> row(State s, int w, int lessons) {
        if (lessons == 0) {
            return most(s) <= w ? new ArrayList<>() : null;
        }
        for (int a = 0; a < many(); a++) {
            for (int b = 0; b < many(); b++) {
                if (a != b && teachable(s, b)) {
                    List<Integer> rest = row(lesson(s, a, b), w, lessons - 1);
                    if (rest != null) {
                        rest.add(0, 10 * a + b);
                        return rest;
                    }
                }
            }
        }
        return null;
    }

    int right(int w, int k) {
        if (w < 0 || w > 100 || k < 0 || k > 2) {
            return BAD;
        }
        for (int lessons = 0; lessons <= 2; lessons++) {
            List<Integer> row = row(now, w, lessons);
            if (row != null) {
                return k == 0 ? lessons : k <= lessons ? row.get(k - 1) : NONE;
            }
        }
        return NONE;
    }

    private int bestSum;
    private List<Integer> bestOrder;

    private void orders(State s, List<Integer> order) {
        if (order.size() == many()) {
            int sum = s.wrong.stream().mapToInt(Math::abs).sum();
            if (sum < bestSum) {
                bestSum = sum;
                bestOrder = new ArrayList<>(order);
            }
            return;
        }
        for (int c = 0; c < many(); c++) {
            if (!order.contains(c)) {
                State then = lesson(s, order.get(order.size() - 1), c);
                order.add(c);
                orders(then, order);
                order.remove(order.size() - 1);
            }
        }
    }

    int ring(int k) {
        if (k < 0 || k > 7) {
            return BAD;
        }
        bestSum = Integer.MAX_VALUE;
        orders(now, new ArrayList<>(List.of(0)));
        return k == 0 ? bestSum : k <= many() ? bestOrder.get(k - 1) : NONE;
    }

    int dull() {
        int bits = 0;
        for (int b = 0; b < many(); b++) {
            int own = Math.abs(now.wrong.get(b));
            boolean dull = own > 0;
            for (int a = 0; a < many(); a++) {
                dull &= a == b || Math.abs(lesson(now, a, b).wrong.get(b)) >= own;
            }
            bits += dull ? 1 << b : 0;
        }
        return bits;
    }

    private int[] bestMates;

    private void twos(int[] mates, int sum, boolean mayBeLeft) {
        int low = 0;
        while (low < mates.length && mates[low] != Integer.MAX_VALUE) {
            low++;
        }
        if (low == mates.length) {
            if (sum < bestSum) {
                bestSum = sum;
                bestMates = mates;
            }
            return;
        }
        for (int high = low + 1; high < mates.length; high++) {
            if (mates[high] == Integer.MAX_VALUE) {
                int[] next = mates.clone();
                next[low] = high;
                next[high] = low;
                twos(next, sum + Math.abs(now.wrong.get(low) - now.wrong.get(high)), mayBeLeft);
            }
        }
        if (mayBeLeft) {
            int[] next = mates.clone();
            next[low] = NONE;
            twos(next, sum, false);
        }
    }

    int pairs(int c) {
        if (c != -1 && !is(c)) {
            return BAD;
        }
        int[] none = new int[many()];
        Arrays.fill(none, Integer.MAX_VALUE);
        bestSum = Integer.MAX_VALUE;
        twos(none, 0, many() % 2 == 1);
        return c == -1 ? bestSum : bestMates[c];
    }

    int oils(int c, int n, int w) {
        if (!is(c) || n < 1 || n > 30 || w < 0 || w > 100) {
            return BAD;
        }
        for (int times = 0; times <= 10; times++) {
            if (Math.abs(days(oiled(now, c, times), n).wrong.get(c)) <= w) {
                return times;
            }
        }
        return NONE;
    }

    int hear(int c, int e) {
        if (!is(c) || e < 0 || e > 1200) {
            return BAD;
        }
        if (heard.size() == 6) {
            return FULL;
        }
        heard.add(new int[] {c, e - 600});
        return heard.size();
    }

    int forget() {
        int were = heard.size();
        heard.clear();
        return were;
    }

    private boolean so(State s) {
        return heard.stream().allMatch(h -> s.wrong.get(h[0]) == h[1]);
    }

    int taught(int what) {
        List<Integer> all = new ArrayList<>();
        for (int a = 0; a < many(); a++) {
            for (int b = 0; b < many(); b++) {
                if (a != b && teachable(now, b) && so(lesson(now, a, b))) {
                    all.add(10 * a + b);
                }
            }
        }
        return some(what, all);
    }

    private static int some(int what, List<Integer> all) {
        return what == 0 ? all.size() : what != 1 ? BAD : all.isEmpty() ? NONE : all.get(0);
    }

    int setter(int what) {
        List<Integer> all = new ArrayList<>();
        for (int m = 0; m <= 200; m++) {
            State s = now;
            for (int c = 0; c < many(); c++) {
                s = house.clocks.get(c)[0] == 3 ? s : with(s, c, m - 100);
            }
            if (so(s)) {
                all.add(m);
            }
        }
        return some(what, all);
    }

    int child(int c) {
        if (!is(c)) {
            return BAD;
        }
        int best = NONE;
        int least = Integer.MAX_VALUE;
        for (int o = 0; o < many(); o++) {
            int apart = Math.abs(now.wrong.get(o) - now.wrong.get(c));
            if (o != c && apart < least) {
                least = apart;
                best = o;
            }
        }
        return best;
    }

    private BigInteger above(State s, int c, int n, int x) {
        if (n == 0) {
            return s.wrong.get(c) == 0 ? BigInteger.ONE : BigInteger.ZERO;
        }
        return above(day(s, false), c, n - 1, x).multiply(BigInteger.valueOf(x))
            .add(above(day(s, true), c, n - 1, x).multiply(BigInteger.valueOf(10 - x)));
    }

    int draughts(int c, int n, int x, int part) {
        if (!is(c) || n < 0 || n > 6 || x < 0 || x > 10 || part < 0 || part > 1) {
            return BAD;
        }
        BigInteger above = above(now, c, n, x);
        BigInteger below = BigInteger.TEN.pow(n);
        return (part == 0 ? above : below).divide(above.gcd(below)).intValueExact();
    }

    int year(int z, int n, int what) {
        if (z < 0 || z > 9999 || n < 1 || n > 60 || what < 0 || what > 1) {
            return BAD;
        }
        State s = now;
        for (int k = 0; k < n; k++) {
            BigInteger x = BigInteger.valueOf(7919).multiply(BigInteger.valueOf(z))
                .add(BigInteger.valueOf(6151L * k)).add(BigInteger.ONE);
            int draw = x.multiply(x).mod(BigInteger.valueOf(65521)).intValueExact() / 8;
            int a = draw % many();
            int b = draw / 8 % many();
            s = day(a == b ? s : lesson(s, a, b), true);
        }
        return what == 0 ? noon(s) : rights(s);
    }

    private static int rights(State s) {
        return (int) s.wrong.stream().filter(w -> w == 0).count();
    }

    int keep() {
        if (kept.size() == 2) {
            return FULL;
        }
        kept.addLast(now);
        return kept.size();
    }

    int back() {
        if (kept.isEmpty()) {
            return NO;
        }
        now = kept.removeLast();
        done.clear();
        return kept.size();
    }

    int count(int what) {
        int walls = 0;
        for (boolean[] row : house.walls) {
            for (boolean wall : row) {
                walls += wall ? 1 : 0;
            }
        }
        int[] counts = {many(), walls / 2, house.lessons.size(), now.day, rights(now), heard.size(), done.size(),
            kept.size(), text.length()};
        return what < 0 || what >= counts.length ? BAD : counts[what];
    }
}

/**
 * What can be seen of an object, as a text: two objects of the same sight stand alike. It is sparing, as an object has
 * 512 calls: at most some 260 are used here.
 */
final class Sight {
    private static final int MOST_STEPS = 20;

    private Sight() {
    }

    /** What is told of it as it stands; nothing changes by it. */
    static String now(TaughtClocks x) {
        StringBuilder out = new StringBuilder("counts");
        for (int what = 0; what <= 8; what++) {
            out.append(' ').append(x.count(what));
        }
        int clocks = x.count(0);
        out.append("; walls");
        for (int a = 0; a + 1 < clocks; a++) {
            out.append(' ').append(x.wall(a, a + 1));
        }
        out.append("; kinds");
        for (int c = 0; c < clocks; c++) {
            out.append(' ').append(x.clock(c, 0)).append('/').append(x.clock(c, 3));
        }
        out.append("; fault ").append(x.fault()).append("; heard ").append(x.taught(0)).append(' ')
            .append(x.taught(1)).append(' ').append(x.setter(0)).append(' ').append(x.setter(1));
        return out.append("; ").append(clocksOf(x)).append("; 15 days behind ").append(x.behind(15, -1)).toString();
    }

    /** All of it: what is told, all that can be undone, all that is kept, what its text lays. It is taken apart by it. */
    static String whole(TaughtClocks x) {
        StringBuilder out = new StringBuilder(now(x));
        for (int i = 0; i < MOST_STEPS && x.undo() >= 0; i++) {
            out.append("\n  undone: ").append(clocksOf(x));
        }
        for (int i = 0; i < MOST_STEPS && x.back() >= 0; i++) {
            out.append("\n  back: ").append(clocksOf(x));
        }
        out.append("\n  laid: ").append(x.lay()).append(' ').append(clocksOf(x));
        return out.toString();
    }

    private static String clocksOf(TaughtClocks x) {
        StringBuilder out = new StringBuilder("day ").append(x.count(3)).append(':');
        int clocks = x.count(0);
        for (int c = 0; c < clocks; c++) {
            out.append(' ').append(x.clock(c, 1) - 600).append('/').append(x.clock(c, 2) - 10);
        }
        return out.toString();
    }
}

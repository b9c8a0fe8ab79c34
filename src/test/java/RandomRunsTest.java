import java.util.Random;

/** Runs by a fixed seed: the program answers as PlainHouse does, and throws nothing. */
public final class RandomRunsTest {
    private static final int[] WILD =
        {Integer.MIN_VALUE, Integer.MIN_VALUE + 1, -601, -100, -11, -3, -2, 61, 101, 127, 1201, 10000,
         Integer.MAX_VALUE - 1, Integer.MAX_VALUE};

    /** An object is used for at most 512 calls; one round makes up to four. */
    private static final int MOST_CALLS = 512, CALLS_A_ROUND = 4;

    private static final Due DUE = new Due();
    private static Random random = new Random(1);
    private static TaughtClocks x;
    private static PlainHouse due;
    private static String run;
    private static int calls;

    public static void main(String[] args) {
        int runs = Integer.getInteger("runs", 1500);
        for (int i = 0; i < runs; i++) {
            random = new Random(i);
            run = "random run " + i + ": ";
            x = new TaughtClocks();
            due = new PlainHouse();
            // Some houses are the first one, most are told.
            calls = 0;
            if (i % 8 != 0) {
                layHouse();
            }
            while (calls <= MOST_CALLS - CALLS_A_ROUND) {
                round();
            }
        }
        DUE.end("RandomRunsTest");
    }

    private static int upTo(int most) {
        return random.nextInt(most + 1);
    }

    /** Mostly between the two, now and then one beyond or anything. */
    private static int number(int least, int most) {
        int luck = upTo(40);
        if (luck == 0) {
            return WILD[upTo(WILD.length - 1)];
        }
        return luck == 1 ? least - 1 : luck == 2 ? most + 1 : least + upTo(most - least);
    }

    private static int clock() {
        return number(0, Math.max(0, due.count(0) - 1));
    }

    private static void layHouse() {
        String text = randomText();
        same("wipe()", due.wipe(), x.wipe());
        for (int i = 0; i < text.length(); i++) {
            same("write " + text.charAt(i), due.write(text.charAt(i)), x.write(text.charAt(i)));
        }
        same("fault() of " + text, due.fault(), x.fault());
        same("lay() of " + text, due.lay(), x.lay());
    }

    private static String randomText() {
        StringBuilder text = new StringBuilder();
        int clocks = 1 + upTo(6);
        int near = 1 + upTo(100);
        for (int c = 0; c < clocks; c++) {
            int gain = upTo(2) == 0 ? upTo(20) : 8 + upTo(4);
            int wrong = upTo(3) == 0 ? 100 : 100 - near + upTo(2 * near);
            item(text, "c" + upTo(4) + "," + Math.min(200, wrong) + "," + gain + ";");
        }
        for (int i = upTo(6); i > 0 && clocks > 1; i--) {
            item(text, "w" + twoOf(clocks) + ";");
        }
        for (int i = upTo(10); i > 0 && clocks > 1; i--) {
            item(text, "l" + upTo(13) + "," + twoOf(clocks) + ";");
        }
        if (upTo(9) == 0 && text.length() > 0) {
            text.setCharAt(upTo(text.length() - 1), "cwl0129,; x".charAt(upTo(10)));
        }
        return text.toString();
    }

    private static void item(StringBuilder text, String item) {
        if (text.length() + item.length() <= 200) {
            text.append(item);
        }
    }

    private static String twoOf(int clocks) {
        int a = upTo(clocks - 1);
        return a + "," + (a + 1 + upTo(clocks - 2)) % clocks;
    }

    private static void same(String call, int want, int got) {
        calls++;
        DUE.is(run + call, want, got);
    }

    private static void round() {
        int a = clock();
        int b = clock();
        switch (upTo(30)) {
            case 0, 1: {
                int n = upTo(2) > 0 ? number(1, 3) : number(1, 20);
                same("pass " + n, due.pass(n), x.pass(n));
                break;
            }
            case 2, 3: same("teach " + a + " " + b, due.teach(a, b), x.teach(a, b)); break;
            case 4: same("set " + a, due.set(a), x.set(a)); break;
            case 5: same("oil " + a, due.oil(a), x.oil(a)); break;
            case 6, 7: same("undo", due.undo(), x.undo()); break;
            case 8: same("keep", due.keep(), x.keep()); break;
            case 9: same("back", due.back(), x.back()); break;
            case 10: same("forget", due.forget(), x.forget()); break;
            case 11, 12: hear(a, b); break;
            case 13: write(); break;
            case 14: same("noon", due.noon(), x.noon()); break;
            case 15: same("wall " + a + " " + b, due.wall(a, b), x.wall(a, b)); break;
            default: ask(a);
        }
        int what = number(0, 8);
        same("count " + what, due.count(what), x.count(what));
        int part = number(0, 3);
        same("clock " + a + " " + part, due.clock(a, part), x.clock(a, part));
    }

    private static void hear(int a, int b) {
        int luck = upTo(3);
        // What is so, or would be so behind a lesson, is heard more often than by chance.
        int e = luck == 0 ? number(0, 1200) : luck == 1 ? 600 : Math.max(0, x.clock(luck == 2 ? a : b, 1));
        calls++;
        same("hear " + a + " " + e, due.hear(a, e), x.hear(a, e));
    }

    private static void write() {
        int luck = upTo(20);
        if (luck == 0) {
            same("lay", due.lay(), x.lay());
        } else if (luck == 1) {
            same("wipe", due.wipe(), x.wipe());
        } else if (luck == 2) {
            same("fault", due.fault(), x.fault());
        } else {
            int letter = upTo(1) == 0 ? "cwl0123,;".charAt(upTo(8)) : number(32, 126);
            same("write " + letter, due.write(letter), x.write(letter));
        }
    }

    private static void ask(int c) {
        int what = number(0, 1);
        int orAll = upTo(2) == 0 ? -1 : c;
        switch (upTo(10)) {
            case 0: {
                int n = number(0, 60);
                same("behind " + n + " " + orAll, due.behind(n, orAll), x.behind(n, orAll));
                break;
            }
            case 1: {
                int w = upTo(1) == 0 ? number(0, 100) : number(0, 12);
                int k = number(0, 2);
                same("right " + w + " " + k, due.right(w, k), x.right(w, k));
                break;
            }
            case 2: {
                int k = number(0, 7);
                same("ring " + k, due.ring(k), x.ring(k));
                break;
            }
            case 3: same("dull", due.dull(), x.dull()); break;
            case 4: same("pairs " + orAll, due.pairs(orAll), x.pairs(orAll)); break;
            case 5: {
                int n = number(1, 30);
                int w = number(0, 100);
                same("oils " + c + " " + n + " " + w, due.oils(c, n, w), x.oils(c, n, w));
                break;
            }
            case 6: same("taught " + what, due.taught(what), x.taught(what)); break;
            case 7: same("setter " + what, due.setter(what), x.setter(what)); break;
            case 8: same("child " + c, due.child(c), x.child(c)); break;
            case 9: {
                int n = number(0, 6);
                int tenths = number(0, 10);
                same("draughts " + c + " " + n + " " + tenths + " " + what,
                    due.draughts(c, n, tenths, what), x.draughts(c, n, tenths, what));
                break;
            }
            default: {
                int z = number(0, 9999);
                int n = number(1, 60);
                same("year " + z + " " + n + " " + what, due.year(z, n, what), x.year(z, n, what));
            }
        }
    }
}

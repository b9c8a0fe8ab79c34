/** What the tests share: they compare answers with what is due, and end with 1 if one was not. */
final class Due {
    private int wrong = 0;
    private int asked = 0;

    void is(String call, long want, long got) {
        asked++;
        if (got != want) {
            wrong++;
            System.out.println(call + " answered " + got + ", due is " + want);
        }
    }

    void is(String call, String want, String got) {
        asked++;
        if (!got.equals(want)) {
            wrong++;
            System.out.println(call + " answered\n" + got + "\ndue is\n" + want);
        }
    }

    void end(String name) {
        System.out.println(name + ": " + asked + " answers, " + wrong + " not as due");
        if (wrong != 0) {
            System.exit(1);
        }
    }

    static void write(TaughtClocks x, String text) {
        x.wipe();
        for (char letter : text.toCharArray()) {
            x.write(letter);
        }
    }

    static int faultOf(String text) {
        TaughtClocks x = new TaughtClocks();
        write(x, text);
        return x.fault();
    }

    static TaughtClocks laid(String text) {
        TaughtClocks x = new TaughtClocks();
        write(x, text);
        if (x.lay() < 0) {
            throw new IllegalArgumentException("not laid: " + text);
        }
        return x;
    }

    /** How wrong each clock is, as text: "0,12,-5". */
    static String wrongs(TaughtClocks x) {
        StringBuilder out = new StringBuilder();
        for (int c = 0; c < x.count(0); c++) {
            out.append(c == 0 ? "" : ",").append(x.clock(c, 1) - 600);
        }
        return out.toString();
    }

    void wrongsAre(String when, String want, TaughtClocks x) {
        asked++;
        if (!wrongs(x).equals(want)) {
            wrong++;
            System.out.println(when + ": clocks are " + wrongs(x) + " wrong, due is " + want);
        }
    }
}

/** Promises 9 to 13: pass, teach, set, oil, undo; the steps of a day. */
public final class DaysTest {
    private static final Due DUE = new Due();

    public static void main(String[] args) {
        pass();
        lessonsOfADay();
        wallsOfADay();
        limits();
        teach();
        set();
        oil();
        undo();
        undoOfEight();
        DUE.end("DaysTest");
    }

    private static void pass() {
        TaughtClocks x = Due.laid("c0,100,11;");
        DUE.is("pass(0)", -1, x.pass(0));
        DUE.is("pass(-1)", -1, x.pass(-1));
        DUE.is("pass(21)", -1, x.pass(21));
        DUE.is("BAD is no day", 0, x.count(3) + x.count(6));
        DUE.is("pass(1)", 1, x.pass(1));
        DUE.is("pass(20)", 21, x.pass(20));
        DUE.wrongsAre("21 days", "21", x);
    }

    private static void lessonsOfADay() {
        // Told 0 to 1, then 1 to 2: 2 is taught what 1 was taught just then.
        TaughtClocks x = Due.laid("c0,107,10;c0,150,10;c0,160,10;l0,0,1;l0,1,2;");
        x.pass(1);
        DUE.wrongsAre("in the order told", "7,7,7", x);
        x = Due.laid("c0,107,10;c0,150,10;c0,160,10;l0,1,2;l0,0,1;");
        x.pass(1);
        DUE.wrongsAre("in the other order", "7,7,50", x);
        // Day 13, then day 0 once more behind it.
        x = Due.laid("c0,107,10;c0,100,11;l0,0,1;l13,0,1;");
        x.pass(13);
        DUE.wrongsAre("day 13 is ahead", "7,20", x);
        x.pass(1);
        DUE.wrongsAre("day 13", "7,8", x);
        x.pass(1);
        DUE.wrongsAre("day 14", "7,8", x);
        x.pass(1);
        DUE.wrongsAre("day 15", "7,9", x);
        // One on Sundays: days 6 and 13, but no others.
        x = Due.laid("c0,107,10;c4,100,10;l5,0,1;");
        x.pass(6);
        DUE.wrongsAre("no Sunday", "7,0", x);
        x = Due.laid("c0,107,10;c4,100,10;l6,0,1;");
        x.pass(7);
        DUE.wrongsAre("Sunday", "7,7", x);
        // A lesson, then the walls, then gains.
        x = Due.laid("c0,107,12;c0,150,10;w0,1;l0,0,1;");
        x.pass(1);
        DUE.wrongsAre("taught, then heard", "9,7", x);
        x = Due.laid("c0,101,20;c0,100,10;w0,1;");
        x.pass(1);
        DUE.wrongsAre("heard, then gained", "10,0", x);
    }

    private static void wallsOfADay() {
        TaughtClocks x = Due.laid("c0,101,10;c0,100,10;w0,1;");
        x.pass(1);
        DUE.wrongsAre("1 apart", "0,0", x);
        x.pass(1);
        DUE.wrongsAre("alike", "0,0", x);
        x = Due.laid("c0,98,10;c0,100,10;w0,1;");
        x.pass(1);
        DUE.wrongsAre("2 apart", "-1,-1", x);
        // 0 and 1 first (4, 6), then 0 and 2 (3, 1), then 1 and 2 (5, 2).
        x = Due.laid("c0,103,10;c0,107,10;c0,100,10;w2,1;w2,0;w1,0;");
        x.pass(1);
        DUE.wrongsAre("by number, not as told", "3,5,2", x);
        x = Due.laid("c0,103,10;c0,107,10;w0,1;w0,1;w1,0;");
        x.pass(1);
        DUE.wrongsAre("told once more", "4,6", x);
    }

    private static void limits() {
        TaughtClocks x = Due.laid("c0,200,20;c0,0,0;c2,100,10;");
        x.pass(20);
        x.pass(20);
        x.pass(10);
        DUE.wrongsAre("up to the limits", "600,-600,0", x);
        x.pass(1);
        DUE.wrongsAre("no further", "600,-600,0", x);
        DUE.is("a cuckoo at the limit", 1200, x.teach(0, 2));
        DUE.is("a cuckoo at the other", 1, x.teach(1, 2));
    }

    private static void teach() {
        TaughtClocks x = Due.laid("c0,107,10;c1,100,10;c2,150,10;c3,20,10;c4,10,10;");
        DUE.is("a slow one", 603, x.teach(0, 1));
        DUE.is("a slow one again", 605, x.teach(0, 1));
        DUE.is("a slow one 1 apart", 606, x.teach(0, 1));
        DUE.is("a slow one 1 apart", 606, x.teach(0, 1));
        DUE.is("a cuckoo", 608, x.teach(0, 2));
        DUE.is("by a blind one", 520, x.teach(3, 0));
        DUE.is("a slow one, back", 563, x.teach(0, 1));
        DUE.is("by one of Sundays", 510, x.teach(4, 0));
        DUE.is("a blind one", -2, x.teach(0, 3));
        DUE.is("one of Sundays", -2, x.teach(0, 4));
        DUE.is("teach(0, 0)", -1, x.teach(0, 0));
        DUE.is("teach(3, 3)", -1, x.teach(3, 3));
        DUE.is("teach(0, 5)", -1, x.teach(0, 5));
        DUE.is("teach(5, 3)", -1, x.teach(5, 3));
        DUE.is("teach(-1, 0)", -1, x.teach(-1, 0));
        DUE.is("lessons to be undone", 8, x.count(6));
        x.pass(6);
        DUE.is("on a Sunday", 608, x.teach(2, 4));
        DUE.is("a blind one on a Sunday", -2, x.teach(0, 3));
        x.pass(1);
        DUE.is("on a Monday", -2, x.teach(0, 4));
        x.pass(6);
        DUE.is("on day 13", 608, x.teach(2, 4));
        // Half of 5 ahead is 2, half of 5 below is 2 as well.
        x = Due.laid("c0,105,10;c1,100,10;c1,110,10;");
        DUE.is("cut from below", 602, x.teach(0, 1));
        DUE.is("cut from above", 608, x.teach(0, 2));
        x = Due.laid("c0,99,10;c1,100,10;c1,96,10;");
        DUE.is("cut below 0", 600, x.teach(0, 1));
        DUE.is("cut below 0 from below", 597, x.teach(0, 2));
    }

    private static void set() {
        TaughtClocks x = Due.laid("c3,20,12;c4,180,10;");
        DUE.is("set(0)", 520, x.set(0));
        DUE.is("set(1)", 680, x.set(1));
        DUE.wrongsAre("set", "0,0", x);
        DUE.is("set(0) again", 600, x.set(0));
        DUE.is("it gains all the same", 12, x.clock(0, 2));
        DUE.is("set(2)", -1, x.set(2));
        DUE.is("set(-1)", -1, x.set(-1));
        DUE.is("settings to be undone", 3, x.count(6));
    }

    private static void oil() {
        TaughtClocks x = Due.laid("c3,20,12;c4,180,8;c0,100,10;");
        DUE.is("oil(0)", 11, x.oil(0));
        DUE.is("oil(0)", 10, x.oil(0));
        DUE.is("oil(0)", -2, x.oil(0));
        DUE.is("oil(1)", 9, x.oil(1));
        DUE.is("oil(1)", 10, x.oil(1));
        DUE.is("oil(1)", -2, x.oil(1));
        DUE.is("oil(2)", -2, x.oil(2));
        DUE.is("oil(3)", -1, x.oil(3));
        DUE.is("oil(-1)", -1, x.oil(-1));
        DUE.is("oilings to be undone", 4, x.count(6));
        x.pass(5);
        DUE.wrongsAre("oiled ones", "-80,80,0", x);
    }

    private static void undo() {
        TaughtClocks x = Due.laid("c0,120,12;c0,180,8;");
        DUE.is("undo", -2, x.undo());
        x.pass(4);
        x.teach(0, 1);
        x.set(0);
        x.oil(1);
        DUE.is("undo oiling", 3, x.undo());
        DUE.is("gain", 8, x.clock(1, 2));
        DUE.is("undo setting", 2, x.undo());
        DUE.wrongsAre("setting undone", "28,28", x);
        DUE.is("undo lesson", 1, x.undo());
        DUE.wrongsAre("lesson undone", "28,72", x);
        DUE.is("days", 4, x.count(3));
        x.hear(0, 0);
        x.keep();
        DUE.is("undo days", 0, x.undo());
        DUE.wrongsAre("days undone", "20,80", x);
        DUE.is("days undone", 0, x.count(3));
        DUE.is("heard stays", 1, x.count(5));
        DUE.is("kept stays", 1, x.count(7));
        DUE.is("undo", -2, x.undo());
        x.teach(0, 7);
        x.oil(9);
        x.pass(0);
        x.set(-1);
        DUE.is("BAD is not undone", -2, x.undo());
    }

    private static void undoOfEight() {
        TaughtClocks x = Due.laid("c0,100,11;");
        for (int i = 1; i <= 11; i++) {
            x.pass(i);
            DUE.is("can be undone", Math.min(i, 8), x.count(6));
        }
        for (int left = 7; left >= 0; left--) {
            DUE.is("undo, left " + left, left, x.undo());
            int days = (left + 3) * (left + 4) / 2;
            DUE.is("days", days, x.count(3));
            DUE.is("minutes", days, x.clock(0, 1) - 600);
        }
        DUE.is("undo the ninth", -2, x.undo());
        x.pass(2);
        DUE.is("undo once more", 0, x.undo());
        DUE.is("days", 6, x.count(3));
    }
}

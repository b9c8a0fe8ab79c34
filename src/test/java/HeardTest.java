/** Promises 20 to 24: hear, forget, taught, setter, child. */
public final class HeardTest {
    private static final Due DUE = new Due();

    public static void main(String[] args) {
        hear();
        forget();
        taught();
        setter();
        child();
        DUE.end("HeardTest");
    }

    private static void hear() {
        TaughtClocks x = Due.laid("c0,100,10;c0,101,10;");
        DUE.is("hear(2, 0)", -1, x.hear(2, 0));
        DUE.is("hear(-1, 0)", -1, x.hear(-1, 0));
        DUE.is("hear(0, -1)", -1, x.hear(0, -1));
        DUE.is("hear(0, 1201)", -1, x.hear(0, 1201));
        DUE.is("count(5)", 0, x.count(5));
        DUE.is("hear(0, 0)", 1, x.hear(0, 0));
        DUE.is("hear(1, 1200)", 2, x.hear(1, 1200));
        DUE.is("hear(1, 1200)", 3, x.hear(1, 1200));
        DUE.is("hear(1, 600)", 4, x.hear(1, 600));
        DUE.is("hear(0, 601)", 5, x.hear(0, 601));
        DUE.is("hear(0, 602)", 6, x.hear(0, 602));
        DUE.is("hear(0, 603)", -3, x.hear(0, 603));
        DUE.is("hear BAD ahead of FULL", -1, x.hear(2, 603));
        DUE.is("count(5)", 6, x.count(5));
    }

    private static void forget() {
        TaughtClocks x = Due.laid("c0,100,10;c0,101,10;");
        DUE.is("forget", 0, x.forget());
        x.hear(0, 0);
        x.hear(0, 1);
        DUE.is("taught(0)", 0, x.taught(0));
        DUE.is("forget", 2, x.forget());
        DUE.is("taught(0)", 2, x.taught(0));
        DUE.is("count(5)", 0, x.count(5));
        DUE.is("hear(0, 600)", 1, x.hear(0, 600));
    }

    private static void taught() {
        TaughtClocks x = Due.laid("c0,105,10;c1,101,10;c2,104,10;c3,105,10;c4,103,10;");
        DUE.is("taught(0)", 12, x.taught(0));
        DUE.is("taught(1)", 1, x.taught(1));
        x.hear(0, 605);
        // All lessons of 1 and 2, and 0 by 3.
        DUE.is("taught(0) of 0", 9, x.taught(0));
        x.hear(1, 603);
        // 0 to 1, 3 to 1; 2 to 1 is 1 plus 1.
        DUE.is("taught(0) of 1", 2, x.taught(0));
        DUE.is("taught(1) of 1", 1, x.taught(1));
        x.hear(2, 606);
        DUE.is("taught(0) of two lessons", 0, x.taught(0));
        DUE.is("taught(1) of two lessons", -4, x.taught(1));
        x.forget();
        x.hear(2, 606);
        DUE.is("taught(0) of 2", 2, x.taught(0));
        DUE.is("taught(1) of 2", 2, x.taught(1));
        x.hear(3, 605);
        DUE.is("taught(0) of 2 and the blind", 2, x.taught(0));
        x.hear(3, 604);
        DUE.is("taught(0) of the blind", 0, x.taught(0));
        x.forget();
        x.hear(4, 604);
        DUE.is("taught(0) on a weekday", 0, x.taught(0));
        x.pass(6);
        DUE.is("taught(0) on a Sunday", 1, x.taught(0));
        DUE.is("taught(1) on a Sunday", 24, x.taught(1));
        DUE.is("taught(2)", -1, x.taught(2));
        DUE.is("taught(-1)", -1, x.taught(-1));
        DUE.wrongsAre("taught", "5,1,4,5,3", x);
        x = Due.laid("c0,105,10;");
        DUE.is("taught(0) of one", 0, x.taught(0));
        DUE.is("taught(1) of one", -4, x.taught(1));
    }

    private static void setter() {
        TaughtClocks x = Due.laid("c0,105,10;c1,101,10;c3,110,10;c4,103,10;");
        DUE.is("setter(0)", 201, x.setter(0));
        DUE.is("setter(1)", 0, x.setter(1));
        x.hear(2, 610);
        DUE.is("setter(0) of the blind", 201, x.setter(0));
        x.hear(3, 500);
        DUE.is("setter(0) of least", 1, x.setter(0));
        DUE.is("setter(1) of least", 0, x.setter(1));
        x.hear(1, 500);
        DUE.is("setter(0) of two", 1, x.setter(0));
        x.hear(0, 501);
        DUE.is("setter(0) of unlike", 0, x.setter(0));
        DUE.is("setter(1) of unlike", -4, x.setter(1));
        x.forget();
        x.hear(0, 700);
        DUE.is("setter(1) of most", 200, x.setter(1));
        x.forget();
        x.hear(0, 701);
        DUE.is("setter(0) beyond", 0, x.setter(0));
        x.forget();
        x.hear(0, 499);
        DUE.is("setter(0) below", 0, x.setter(0));
        x.forget();
        x.hear(2, 609);
        DUE.is("setter(0) of the blind, not so", 0, x.setter(0));
        DUE.is("setter(2)", -1, x.setter(2));
        DUE.is("setter(-1)", -1, x.setter(-1));
        DUE.wrongsAre("setter", "5,1,10,3", x);
    }

    private static void child() {
        TaughtClocks x = Due.laid("c0,105,10;c1,101,10;c3,110,10;c4,98,10;");
        DUE.is("child(0)", 1, x.child(0));
        DUE.is("child(1)", 3, x.child(1));
        DUE.is("child(2)", 0, x.child(2));
        DUE.is("child(3)", 1, x.child(3));
        DUE.is("child(4)", -1, x.child(4));
        DUE.is("child(-1)", -1, x.child(-1));
        x = Due.laid("c0,105,10;c1,100,10;c3,110,10;");
        DUE.is("child(0) of two alike", 1, x.child(0));
        x = Due.laid("c0,105,10;");
        DUE.is("child(0) of one", -4, x.child(0));
        DUE.is("child(1) of one", -1, x.child(1));
    }
}

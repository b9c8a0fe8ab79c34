/** The bounds that the document's sentences on HEARD, TAUGHT, SETTER and CHILD name, and promises 20 to 24: a test each. */
public final class HeardBoundsTest {
    private static final Due DUE = new Due();

    public static void main(String[] args) {
        sixHeard();
        heardMinutes();
        heardClocks();
        heardBadAheadOfFull();
        heardIsForgotten();
        heardAllOfSix();
        heardAtTheMost();
        taughtOfNothingHeard();
        taughtOnceNow();
        taughtFirst();
        taughtOfThoseNotTaught();
        taughtNumbers();
        setterMinutes();
        setterOfBlindOnes();
        setterLeast();
        setterNumbers();
        childOfOne();
        childFewestMinutes();
        childLowest();
        childNumbers();
        DUE.end("HeardBoundsTest");
    }

    /** "HEARD (6 at most)"; "how many .. FULL". */
    private static void sixHeard() {
        TaughtClocks x = Due.laid("c0,100,10;c3,101,10;");
        for (int i = 1; i <= 6; i++) {
            DUE.is("hear " + i, i, x.hear(i % 2, 600 + i));
            DUE.is("heard", i, x.count(5));
        }
        DUE.is("hear 7", -3, x.hear(0, 600));
        DUE.is("hear 8", -3, x.hear(1, 601));
        DUE.is("heard", 6, x.count(5));
        DUE.is("forget", 6, x.forget());
        // The same one counts each time.
        for (int i = 1; i <= 6; i++) {
            DUE.is("hear the same, " + i, i, x.hear(1, 601));
        }
        DUE.is("hear the same, 7", -3, x.hear(1, 601));
        DUE.is("what is heard is so", 1, x.taught(0));
    }

    /** "e less 600 minutes WRONG (e 0 to 1200)". */
    private static void heardMinutes() {
        for (int e = -100; e <= 1300; e++) {
            TaughtClocks x = Due.laid("c3,100,10;c0,100,10;");
            boolean told = e >= 0 && e <= 1200;
            DUE.is("hear(0, " + e + ")", told ? 1 : -1, x.hear(0, e));
            DUE.is("heard of " + e, told ? 1 : 0, x.count(5));
            DUE.is("so by a lesson: " + e, !told || e == 600 ? 1 : 0, x.taught(0));
        }
    }

    /** "HEARD is that a CLOCK .."; "BAD". */
    private static void heardClocks() {
        for (int many = 1; many <= 7; many++) {
            for (int c = -2; c <= 9; c++) {
                TaughtClocks x = Due.laid("c0,100,10;".repeat(many));
                boolean told = c >= 0 && c < many;
                DUE.is("hear(" + c + ", 600) of " + many, told ? 1 : -1, x.hear(c, 600));
                DUE.is("heard", told ? 1 : 0, x.count(5));
            }
        }
    }

    /** "BAD; FULL": of both, BAD; neither is heard. */
    private static void heardBadAheadOfFull() {
        TaughtClocks x = Due.laid("c0,100,10;c0,101,10;");
        for (int i = 0; i < 6; i++) {
            x.hear(1, 600);
        }
        DUE.is("hear(2, 600)", -1, x.hear(2, 600));
        DUE.is("hear(-1, 600)", -1, x.hear(-1, 600));
        DUE.is("hear(0, -1)", -1, x.hear(0, -1));
        DUE.is("hear(0, 1201)", -1, x.hear(0, 1201));
        DUE.is("hear(0, 0)", -3, x.hear(0, 0));
        DUE.is("hear(1, 1200)", -3, x.hear(1, 1200));
        DUE.is("heard", 6, x.count(5));
        DUE.is("so by the lesson that is so", 1, x.taught(0));
        DUE.is("forget", 6, x.forget());
    }

    /** "Nothing is HEARD: how many were": of none, of one, of six; then six can be heard again. */
    private static void heardIsForgotten() {
        TaughtClocks x = Due.laid("c0,100,10;c0,101,10;");
        DUE.is("forget nothing", 0, x.forget());
        x.hear(0, 1200);
        DUE.is("nothing can be so", 0, x.taught(0) + x.setter(0));
        DUE.is("forget one", 1, x.forget());
        DUE.is("all is so", 2, x.taught(0));
        DUE.is("all set it", 201, x.setter(0));
        DUE.is("forget nothing", 0, x.forget());
        for (int i = 1; i <= 6; i++) {
            DUE.is("hear again", i, x.hear(0, 601));
        }
        DUE.is("forget six", 6, x.forget());
        DUE.is("days, undone, kept are none", 0, x.count(3) + x.count(6) + x.count(7));
    }

    /** "all that is HEARD would be so": the sixth counts as the first does. */
    private static void heardAllOfSix() {
        TaughtClocks x = Due.laid("c0,100,10;c3,101,10;c3,102,10;");
        for (int i = 0; i < 5; i++) {
            x.hear(1, 601);
        }
        DUE.is("five that are so", 2, x.taught(0));
        DUE.is("five that are so, set", 201, x.setter(0));
        DUE.is("hear the sixth", 6, x.hear(0, 602));
        DUE.is("the sixth is so by one lesson", 1, x.taught(0));
        DUE.is("it is this one", 20, x.taught(1));
        DUE.is("the sixth is so by some minutes", 1, x.setter(0));
        DUE.is("they are these", 102, x.setter(1));
        x.forget();
        x.hear(0, 602);
        for (int i = 0; i < 5; i++) {
            x.hear(2, 601);
        }
        DUE.is("none but the first is so", 0, x.taught(0));
        DUE.is("none but the first is so, set", 0, x.setter(0));
    }

    /** Clocks at 600 and at 600 below 0 can be heard, by e 1200 and e 0. */
    private static void heardAtTheMost() {
        TaughtClocks x = Due.laid("c3,200,20;c3,0,0;c0,100,10;c2,100,10;");
        for (int i = 0; i < 3; i++) {
            x.pass(20);
        }
        DUE.is("hear(0, 1200)", 1, x.hear(0, 1200));
        DUE.is("hear(1, 0)", 2, x.hear(1, 0));
        DUE.is("all lessons leave them", 6, x.taught(0));
        DUE.is("all minutes leave them", 201, x.setter(0));
        x.hear(3, 1200);
        DUE.is("a cuckoo by 600", 1, x.taught(0));
        DUE.is("a cuckoo by 600", 3, x.taught(1));
        x.forget();
        x.hear(3, 1);
        DUE.is("a cuckoo by 600 below 0", 13, x.taught(1));
        x.forget();
        x.hear(2, 0);
        DUE.is("a plain one by 600 below 0", 12, x.taught(1));
    }

    /** Of nothing heard, all twos that can be taught are it. */
    private static void taughtOfNothingHeard() {
        for (int many = 1; many <= 7; many++) {
            TaughtClocks x = Due.laid("c0,100,10;".repeat(many));
            DUE.is("taught(0) of " + many, many * (many - 1), x.taught(0));
            DUE.is("taught(1) of " + many, many == 1 ? -4 : 1, x.taught(1));
        }
    }

    /** "by whose LESSON, once, now": not by none, not by two, not behind a day. */
    private static void taughtOnceNow() {
        TaughtClocks x = Due.laid("c0,100,10;c1,140,11;");
        x.hear(1, 640);
        DUE.is("it is so now, ahead of it", 1, x.taught(0));
        DUE.is("by the one that does not teach it", 10, x.taught(1));
        x.forget();
        x.hear(1, 620);
        DUE.is("by one lesson", 1, x.taught(1));
        x.forget();
        x.hear(1, 610);
        DUE.is("not by two", -4, x.taught(1));
        x.forget();
        x.hear(1, 621);
        DUE.is("not behind a day", -4, x.taught(1));
        x.forget();
        x.hear(0, 640);
        x.hear(1, 640);
        DUE.is("by a lesson of 1 to 0", 10, x.taught(1));
        x.teach(1, 0);
        DUE.is("taught already, by both", 2, x.taught(0));
        DUE.is("the first of them", 1, x.taught(1));
    }

    /** "the first (by teacher, then pupil), as 10 times it and the pupil". */
    private static void taughtFirst() {
        TaughtClocks x = Due.laid("c0,100,10;c0,101,10;c0,101,10;c0,105,10;");
        x.hear(3, 601);
        DUE.is("by 1, by 2", 2, x.taught(0));
        DUE.is("1 is first", 13, x.taught(1));
        x.hear(0, 600);
        DUE.is("1 is first still", 13, x.taught(1));
        x.forget();
        x.hear(3, 605);
        x.hear(2, 605);
        DUE.is("by 3 alone", 1, x.taught(0));
        DUE.is("3 to 2", 32, x.taught(1));
        x = Due.laid("c3,100,10;".repeat(5) + "c0,100,10;c3,150,10;");
        x.hear(5, 650);
        DUE.is("6 to 5", 65, x.taught(1));
        x.forget();
        x.hear(5, 600);
        DUE.is("0 to 5 is first of five", 5, x.taught(0));
        DUE.is("0 to 5", 5, x.taught(1));
    }

    /** "that can be taught today": no blind one, one of Sundays on days 6, 13, 20 alone. */
    private static void taughtOfThoseNotTaught() {
        TaughtClocks x = Due.laid("c3,100,10;c4,107,10;c3,120,10;");
        for (int day = 0; day <= 21; day++) {
            boolean sunday = day % 7 == 6;
            DUE.is("taught(0) on day " + day, sunday ? 2 : 0, x.taught(0));
            DUE.is("taught(1) on day " + day, sunday ? 1 : -4, x.taught(1));
            x.pass(1);
        }
        x.hear(0, 600);
        DUE.is("what is so is not taught", 0, x.taught(0));
    }

    /** "how many (what = 0), the first (1; NONE). BAD": BAD is first. */
    private static void taughtNumbers() {
        TaughtClocks some = Due.laid("c0,100,10;c3,105,10;");
        TaughtClocks none = Due.laid("c3,100,10;c3,105,10;");
        int[] dueOfSome = {-1, -1, 1, 10, -1, -1};
        int[] dueOfNone = {-1, -1, 0, -4, -1, -1};
        for (int what = -2; what <= 3; what++) {
            DUE.is("taught(" + what + ") of some", dueOfSome[what + 2], some.taught(what));
            DUE.is("taught(" + what + ") of none", dueOfNone[what + 2], none.taught(what));
        }
    }

    /** "those minutes (100 below 0 to 100)". */
    private static void setterMinutes() {
        for (int e = 0; e <= 1200; e++) {
            TaughtClocks x = Due.laid("c0,100,10;c3,100,10;");
            x.hear(0, e);
            boolean can = e >= 500 && e <= 700;
            DUE.is("setter(0) of " + e, can ? 1 : 0, x.setter(0));
            DUE.is("setter(1) of " + e, can ? e - 500 : -4, x.setter(1));
        }
    }

    /** "were each CLOCK that is not BLIND as much WRONG, the others as they are": one of Sundays, on any day, too. */
    private static void setterOfBlindOnes() {
        TaughtClocks x = Due.laid("c0,100,10;c1,110,10;c2,120,10;c3,130,10;c4,140,10;");
        x.hear(0, 650);
        x.hear(1, 650);
        x.hear(2, 650);
        x.hear(4, 650);
        DUE.is("all but the blind", 1, x.setter(0));
        DUE.is("all but the blind", 150, x.setter(1));
        x.hear(3, 630);
        DUE.is("the blind as it is", 150, x.setter(1));
        x.hear(3, 650);
        DUE.is("the blind as it is not", 0, x.setter(0));
        DUE.is("the blind as it is not", -4, x.setter(1));
        x.forget();
        x.hear(3, 630);
        DUE.is("by any minutes", 201, x.setter(0));
        DUE.wrongsAre("nothing is set", "0,10,20,30,40", x);
    }

    /** "the least, and 100; none". */
    private static void setterLeast() {
        TaughtClocks x = Due.laid("c3,100,10;");
        DUE.is("of nothing heard, of blind ones", 201, x.setter(0));
        DUE.is("the least is 100 below 0", 0, x.setter(1));
        x.hear(0, 601);
        DUE.is("none", 0, x.setter(0));
        DUE.is("none is the least", -4, x.setter(1));
        x = Due.laid("c0,150,10;c0,150,10;");
        x.hear(0, 500);
        x.hear(1, 501);
        DUE.is("two unlike", 0, x.setter(0));
        x.forget();
        x.hear(1, 700);
        DUE.is("the most", 200, x.setter(1));
    }

    /** "how many (what = 0), the least (1; NONE). BAD": BAD is first. */
    private static void setterNumbers() {
        TaughtClocks some = Due.laid("c0,100,10;");
        TaughtClocks none = Due.laid("c0,100,10;");
        some.hear(0, 501);
        none.hear(0, 1200);
        int[] dueOfSome = {-1, -1, 1, 1, -1, -1};
        int[] dueOfNone = {-1, -1, 0, -4, -1, -1};
        for (int what = -2; what <= 3; what++) {
            DUE.is("setter(" + what + ") of some", dueOfSome[what + 2], some.setter(what));
            DUE.is("setter(" + what + ") of none", dueOfNone[what + 2], none.setter(what));
        }
    }

    /** "CHILD .. none": of one alone; of two the other one, however far. */
    private static void childOfOne() {
        DUE.is("child of one alone", -4, Due.laid("c0,100,10;").child(0));
        TaughtClocks x = Due.laid("c3,200,20;c3,0,0;");
        for (int i = 0; i < 3; i++) {
            x.pass(20);
        }
        DUE.is("child(0), 1200 apart", 1, x.child(0));
        DUE.is("child(1), 1200 apart", 0, x.child(1));
    }

    /** "the other one by which it is fewest minutes apart", either way. */
    private static void childFewestMinutes() {
        TaughtClocks x = Due.laid("c0,100,10;c0,110,10;c0,91,10;c0,60,10;c0,150,10;c0,10,10;c0,199,10;");
        int[] due = {2, 0, 0, 2, 1, 3, 4};
        for (int c = 0; c < 7; c++) {
            DUE.is("child(" + c + ")", due[c], x.child(c));
        }
        x.set(6);
        DUE.is("child(0), 0 apart", 6, x.child(0));
        DUE.is("child(6), 0 apart", 0, x.child(6));
    }

    /** "of several the lowest": not itself. */
    private static void childLowest() {
        TaughtClocks x = Due.laid("c0,100,10;".repeat(7));
        for (int c = 0; c < 7; c++) {
            DUE.is("child(" + c + ") of alike ones", c == 0 ? 1 : 0, x.child(c));
        }
        x = Due.laid("c0,105,10;c0,100,10;c0,110,10;c0,95,10;");
        DUE.is("child(0) of two as far", 1, x.child(0));
        DUE.is("child(1) of two as far", 0, x.child(1));
        DUE.is("child(2)", 0, x.child(2));
        DUE.is("child(3)", 1, x.child(3));
    }

    /** "NONE; BAD": BAD is first. */
    private static void childNumbers() {
        TaughtClocks one = Due.laid("c0,100,10;");
        TaughtClocks two = Due.laid("c0,100,10;c0,150,10;");
        for (int c = -3; c <= 8; c++) {
            DUE.is("child(" + c + ") of one", c == 0 ? -4 : -1, one.child(c));
            DUE.is("child(" + c + ") of two", c == 0 || c == 1 ? 1 - c : -1, two.child(c));
        }
    }
}

/** The bounds that the document's sentences on BEHIND, RIGHT, RING, DULL, PAIRS, OIL name, and promises 14 to 19. */
public final class ComesBoundsTest {
    private static final Due DUE = new Due();

    public static void main(String[] args) {
        behindDays();
        behindClocks();
        behindGoesOnFromToday();
        rightMinutes();
        rightExactlyAsWrong();
        rightOfNoLesson();
        rightOfOneLesson();
        rightOfTwoLessons();
        rightOfThreeLessonsIsNone();
        rightFirstByTeacherThenPupil();
        rightPlaces();
        rightOfOneClock();
        rightAtTheMost();
        ringOfOneToSeven();
        ringPlaces();
        ringFirstOfSeveral();
        ringLastTeachesNobody();
        ringOfThoseNotTaught();
        ringAtTheMost();
        dullIsNotRight();
        dullIsNotLessWrong();
        dullOfThoseNotTaught();
        dullBits();
        pairsOfOneToSeven();
        pairsNumbers();
        pairsFirstOfSeveral();
        pairsLeftBehindAll();
        oilDays();
        oilMinutes();
        oilNoughtToTen();
        oilAsOftenAsItCanBe();
        oilGoesOnFromToday();
        oilNumbers();
        askedAgain();
        nothingChangesByAsking();
        DUE.end("ComesBoundsTest");
    }

    /** "BEHIND n DAYS (0 to 60)". */
    private static void behindDays() {
        TaughtClocks x = Due.laid("c0,100,11;c0,180,8;");
        for (int n = -3; n <= 65; n++) {
            boolean told = n >= 0 && n <= 60;
            DUE.is("behind(" + n + ", 0)", told ? 600 + n : -1, x.behind(n, 0));
            DUE.is("behind(" + n + ", 1)", told ? 680 - 2 * n : -1, x.behind(n, 1));
            DUE.is("behind(" + n + ", -1)", told ? 600 + Math.min(n, 80 - 2 * n) : -1, x.behind(n, -1));
        }
        DUE.is("days gone by", 0, x.count(3));
    }

    /** "how WRONG CLOCK c is .. NOON .. (c = -1). BAD". */
    private static void behindClocks() {
        TaughtClocks x = Due.laid("c0,107,10;c0,150,10;c0,140,10;");
        int[] due = {-1, -1, 640, 607, 650, 640, -1, -1, -1};
        for (int c = -3; c <= 5; c++) {
            DUE.is("behind(0, " + c + ")", due[c + 3], x.behind(0, c));
            DUE.is("behind(60, " + c + ")", due[c + 3], x.behind(60, c));
            DUE.is("behind(61, " + c + ")", -1, x.behind(61, c));
            DUE.is("behind(-1, " + c + ")", -1, x.behind(-1, c));
        }
    }

    /** Days count on from those gone by: lessons of day 13, then of day 0, and Sundays. */
    private static void behindGoesOnFromToday() {
        TaughtClocks x = Due.laid("c0,107,10;c4,150,10;c0,160,10;l13,0,1;l0,1,2;");
        x.pass(12);
        DUE.is("ahead of day 13", 650, x.behind(1, 1));
        DUE.is("behind day 13", 607, x.behind(2, 1));
        DUE.is("ahead of day 14", 650, x.behind(2, 2));
        DUE.is("behind day 14", 607, x.behind(3, 2));
        DUE.is("now", 650, x.behind(0, 1));
    }

    /** "RIGHT for w (0 to 100)"; "its k-th": BAD, ahead of NONE. */
    private static void rightMinutes() {
        TaughtClocks right = Due.laid("c0,100,10;");
        for (int w = -3; w <= 105; w++) {
            TaughtClocks none = Due.laid("c3,200,20;c3,0,0;");
            none.pass(10);
            boolean told = w >= 0 && w <= 100;
            DUE.is("right(" + w + ", 0) of a right one", told ? 0 : -1, right.right(w, 0));
            for (int k = -2; k <= 5; k++) {
                boolean bad = !told || k < 0 || k > 2;
                DUE.is("right(" + w + ", " + k + ") of none", bad ? -1 : -4, none.right(w, k));
            }
        }
    }

    /** "no CLOCK is more than w minutes WRONG, either way". */
    private static void rightExactlyAsWrong() {
        for (int w = 0; w <= 100; w++) {
            DUE.is("as wrong as " + w, 0, Due.laid("c3," + (100 + w) + ",10;").right(w, 0));
            DUE.is("as wrong as " + w + " below 0", 0, Due.laid("c3," + (100 - w) + ",10;").right(w, 0));
            if (w < 100) {
                DUE.is("1 more than " + w, -4, Due.laid("c3," + (101 + w) + ",10;").right(w, 0));
                DUE.is("1 more than " + w + " below 0", -4, Due.laid("c3," + (99 - w) + ",10;").right(w, 0));
            }
        }
        TaughtClocks x = Due.laid("c3,200,11;c3,100,10;");
        DUE.is("100 wrong", 0, x.right(100, 0));
        x.pass(1);
        DUE.is("101 wrong", -4, x.right(100, 0));
        DUE.is("one right, one wrong", -4, x.right(0, 0));
    }

    private static void right(TaughtClocks x, int w, int many, int first, int second) {
        DUE.is("right(" + w + ", 0)", many, x.right(w, 0));
        DUE.is("right(" + w + ", 1)", first, x.right(w, 1));
        DUE.is("right(" + w + ", 2)", second, x.right(w, 2));
    }

    /** "the fewest LESSONS today (0 to 2": 0, though a lesson would do no harm. */
    private static void rightOfNoLesson() {
        right(Due.laid("c0,105,10;c0,95,10;"), 5, 0, -4, -4);
        right(Due.laid("c0,100,10;".repeat(7)), 0, 0, -4, -4);
    }

    /** 1, though two would do as well. */
    private static void rightOfOneLesson() {
        right(Due.laid("c0,105,10;c0,150,10;c0,95,10;"), 5, 1, 1, -4);
        right(Due.laid("c0,150,10;c0,105,10;c0,95,10;"), 5, 1, 10, -4);
        right(Due.laid("c0,100,10;".repeat(6) + "c0,150,10;"), 0, 1, 6, -4);
        right(Due.laid("c3,150,10;c0,160,10;"), 50, 1, 1, -4);
    }

    /** 2, "one behind the other": the second one's teacher may be the first one's pupil. */
    private static void rightOfTwoLessons() {
        right(Due.laid("c0,100,10;c0,150,10;c0,160,10;"), 0, 2, 1, 2);
        right(Due.laid("c0,150,10;c0,160,10;c0,100,10;"), 0, 2, 20, 1);
        right(Due.laid("c0,100,10;".repeat(5) + "c0,150,10;c0,160,10;"), 0, 2, 5, 6);
        // Two lessons of one pupil: 30, 15, 8.
        right(Due.laid("c0,100,10;c1,102,10;c1,130,10;"), 8, 2, 2, 2);
        right(Due.laid("c0,100,10;c1,102,10;c1,130,10;"), 7, -4, -4, -4);
        // 2 teaches 0; of 0 and 2, both right then, 0 is ahead as the second teacher.
        right(Due.laid("c0,190,10;c1,180,10;c3,100,10;"), 40, 2, 20, 1);
    }

    /** "(0 to 2": of three there is none. */
    private static void rightOfThreeLessonsIsNone() {
        right(Due.laid("c0,100,10;c0,150,10;c0,160,10;c0,170,10;"), 0, -4, -4, -4);
        right(Due.laid("c0,100,10;c1,180,10;"), 19, -4, -4, -4);
        right(Due.laid("c0,100,10;c1,180,10;"), 20, 2, 1, 1);
        right(Due.laid("c0,100,10;c1,180,10;"), 40, 1, 1, -4);
        right(Due.laid("c0,100,10;c1,180,10;"), 80, 0, -4, -4);
    }

    /** "of several rows the first (by the first one's teacher, pupil, then the second's)". */
    private static void rightFirstByTeacherThenPupil() {
        right(Due.laid("c0,100,10;c0,100,10;c0,150,10;c0,100,10;"), 0, 1, 2, -4);
        right(Due.laid("c0,150,10;c0,100,10;c0,100,10;"), 0, 1, 10, -4);
        right(Due.laid("c0,150,10;c0,100,10;c0,160,10;"), 0, 2, 10, 2);
        right(Due.laid("c0,150,10;c0,160,10;c0,100,10;c0,100,10;"), 0, 2, 20, 1);
        right(Due.laid("c0,105,10;c0,150,10;c0,101,10;c0,150,10;"), 5, 2, 1, 3);
        // 0 is none that is right: 2 has to teach both, or 0 first, and 0 comes ahead as a teacher then.
        right(Due.laid("c0,150,10;c0,160,10;c3,100,10;"), 0, 2, 20, 1);
    }

    /** "the k-th (1, 2; NONE: there are not so many)". */
    private static void rightPlaces() {
        TaughtClocks x = Due.laid("c0,100,10;c0,120,10;c0,140,10;");
        int[][] due = {{39, 1, 2, -4}, {40, 0, -4, -4}, {20, 1, 2, -4}, {19, 2, 1, 2}};
        for (int[] d : due) {
            for (int k = -2; k <= 5; k++) {
                DUE.is("right(" + d[0] + ", " + k + ")", k < 0 || k > 2 ? -1 : d[k + 1], x.right(d[0], k));
            }
        }
        DUE.is("right(101, 1)", -1, x.right(101, 1));
        DUE.is("right(-1, 2)", -1, x.right(-1, 2));
    }

    /** Nobody is there to teach one alone. */
    private static void rightOfOneClock() {
        right(Due.laid("c0,101,10;"), 1, 0, -4, -4);
        right(Due.laid("c0,101,10;"), 0, -4, -4, -4);
    }

    /** "w (0 to 100)" of clocks at 600; a cuckoo is never more than that. */
    private static void rightAtTheMost() {
        TaughtClocks x = Due.laid("c0,200,20;c2,100,10;c0,100,10;");
        for (int i = 0; i < 3; i++) {
            x.pass(20);
        }
        DUE.wrongsAre("far off", "600,0,0", x);
        right(x, 100, 1, 10, -4);
        right(x, 1, 1, 10, -4);
        right(x, 0, 1, 10, -4);
    }

    /** "of all orders of CLOCKS": of one there is one, and it teaches nobody; of seven 720. */
    private static void ringOfOneToSeven() {
        for (int many = 1; many <= 7; many++) {
            TaughtClocks x = Due.laid("c0,101,10;" + "c2,150,10;".repeat(many - 1));
            DUE.is("ring(0) of " + many, many * (many + 1) / 2, x.ring(0));
            for (int k = 1; k <= 7; k++) {
                DUE.is("ring(" + k + ") of " + many, k <= many ? k - 1 : -4, x.ring(k));
            }
        }
        // Cuckoos count up from 0, from 5 (0 wrong), from 6 (1 below 0): 1; 1; 0 and 1.
        TaughtClocks x = Due.laid("c0,100,10;c2,150,10;c2,150,10;c2,150,10;c2,150,10;c3,100,10;c3,99,10;");
        int[] due = {4, 0, 1, 5, 2, 6, 3, 4};
        for (int k = 0; k < due.length; k++) {
            DUE.is("ring(" + k + ") of blind ones among cuckoos", due[k], x.ring(k));
        }
        // The best one is the very last order of all: 12 below 0, 2, 48, 18 below 0, 5, 17, 15.
        x = Due.laid("c0,88,10;c3,115,10;c1,129,10;c1,127,10;c1,16,10;c1,194,10;c1,116,10;");
        DUE.is("ring(0) of the last order", 117, x.ring(0));
        for (int k = 2; k <= 7; k++) {
            DUE.is("ring(" + k + ") of the last order", 8 - k, x.ring(k));
        }
    }

    /** "how WRONG (k = 0), who comes k-th (1 to 7; NONE: there are not so many). BAD". */
    private static void ringPlaces() {
        TaughtClocks x = Due.laid("c0,150,10;c0,100,10;c3,90,10;");
        int[] due = {-1, -1, 70, 0, 2, 1, -4, -4, -4, -4, -1, -1};
        for (int k = -2; k <= 9; k++) {
            DUE.is("ring(" + k + ")", due[k + 2], x.ring(k));
        }
        x = Due.laid("c0,107,10;c3,100,10;c0,110,10;c0,120,10;c0,130,10;c0,140,10;c0,150,10;");
        // 0, then 1 that is right teaches all others.
        int[] seven = {7, 0, 1, 2, 3, 4, 5, 6};
        for (int k = 0; k <= 7; k++) {
            DUE.is("ring(" + k + ") of seven", seven[k], x.ring(k));
        }
        DUE.is("ring(8) of seven", -1, x.ring(8));
    }

    /** "of several the first". */
    private static void ringFirstOfSeveral() {
        TaughtClocks x = Due.laid("c0,110,10;c3,105,10;c0,150,10;c3,105,10;");
        // 1 and 3 teach 2 alike: 0 1 2 3 is ahead of 0 1 3 2, of 0 3 1 2, of 0 3 2 1.
        int[] due = {25, 0, 1, 2, 3};
        for (int k = 0; k < due.length; k++) {
            DUE.is("ring(" + k + ") of several", due[k], x.ring(k));
        }
        // Either way: 5 below 0 is as good as 5, so that the first of both counts.
        x = Due.laid("c0,110,10;c3,105,10;c3,95,10;c0,150,10;");
        int[] either = {25, 0, 1, 2, 3};
        for (int k = 0; k < either.length; k++) {
            DUE.is("ring(" + k + ") either way", either[k], x.ring(k));
        }
    }

    /** "(the last one nobody": 0 is not taught. */
    private static void ringLastTeachesNobody() {
        TaughtClocks x = Due.laid("c0,150,10;c3,100,10;");
        DUE.is("ring(0)", 50, x.ring(0));
        DUE.is("ring(2)", 1, x.ring(2));
    }

    /** "one that can not be taught stays as it is", and teaches the next as it is. */
    private static void ringOfThoseNotTaught() {
        TaughtClocks x = Due.laid("c0,150,10;c4,110,10;c3,130,10;c1,100,10;");
        // 0 3 1 2: 50, 25, 10, 30; 0 1 3 2: 50, 10, 5, 30.
        int[] weekday = {95, 0, 1, 3, 2};
        // On a Sunday: 0 2 1 3: 50, 30, 30, 15; 0 2 3 1: 50, 30, 15, 15; 0 3 1 2: 50, 25, 25, 30; 0 1 2 3: 50, 50, 30, 15.
        int[] sunday = {110, 0, 2, 3, 1};
        for (int k = 0; k < weekday.length; k++) {
            DUE.is("ring(" + k + ") on a weekday", weekday[k], x.ring(k));
        }
        x.pass(6);
        for (int k = 0; k < sunday.length; k++) {
            DUE.is("ring(" + k + ") on a Sunday", sunday[k], x.ring(k));
        }
        x.pass(1);
        DUE.is("ring(0) on day 7", 95, x.ring(0));
    }

    /** Cuckoos are never more than 600; all seven together. */
    private static void ringAtTheMost() {
        TaughtClocks x = Due.laid("c0,200,20;" + "c2,100,10;".repeat(6));
        for (int i = 0; i < 3; i++) {
            x.pass(20);
        }
        DUE.is("ring(0) at the most", 4200, x.ring(0));
        DUE.is("ring(7) at the most", 6, x.ring(7));
    }

    /** "CLOCKS (bits) that are not right": a right one that would be wrong by any lesson is none. */
    private static void dullIsNotRight() {
        DUE.is("right ones", 0, Due.laid("c0,100,10;c3,100,10;c4,100,10;c2,100,10;").dull());
        DUE.is("right ones, one wrong", 16, Due.laid("c0,100,10;c3,100,10;c4,100,10;c2,100,10;c3,99,10;").dull());
    }

    /** "would have less WRONG, either way": as wrong as before, either way, is not less. */
    private static void dullIsNotLessWrong() {
        DUE.is("by one alike", 3, Due.laid("c0,110,10;c0,110,10;").dull());
        DUE.is("by one alike the other way", 3, Due.laid("c0,110,10;c0,90,10;").dull());
        DUE.is("by one a minute less wrong", 2, Due.laid("c0,110,10;c0,109,10;").dull());
        DUE.is("by one a minute less wrong below 0", 2, Due.laid("c0,90,10;c0,109,10;").dull());
        DUE.is("a cuckoo by 1 less", 3, Due.laid("c2,110,10;c3,109,10;").dull());
        DUE.is("a cuckoo by 2 less", 2, Due.laid("c2,110,10;c3,108,10;").dull());
        DUE.is("a cuckoo by 1 below 0", 2, Due.laid("c2,110,10;c3,99,10;").dull());
        DUE.is("a cuckoo 1 below 0, by 1 below it", 3, Due.laid("c2,99,10;c3,98,10;").dull());
        DUE.is("a cuckoo 1 below 0, by 1 below 0", 2, Due.laid("c2,99,10;c3,99,10;").dull());
        DUE.is("a slow one 1 wrong", 1, Due.laid("c1,101,10;c0,100,10;").dull());
        DUE.is("a slow one 2 wrong", 0, Due.laid("c1,102,10;c0,100,10;").dull());
        DUE.is("a slow one to the other side", 2, Due.laid("c1,110,10;c3,71,10;").dull());
        DUE.is("a slow one as far on the other side", 3, Due.laid("c1,110,10;c3,70,10;").dull());
    }

    /** "no LESSON today by any other one": none at all for a blind one, on weekdays for one of Sundays, for one alone. */
    private static void dullOfThoseNotTaught() {
        TaughtClocks x = Due.laid("c0,100,10;c3,110,10;c4,110,10;");
        for (int day = 0; day < 15; day++) {
            DUE.is("dull on day " + day, day == 6 || day == 13 ? 2 : 6, x.dull());
            x.pass(1);
        }
        DUE.is("one alone", 1, Due.laid("c0,110,10;").dull());
    }

    /** Each clock has the bit of its number, 6 the last. */
    private static void dullBits() {
        for (int c = 0; c < 7; c++) {
            String text = "c3,100,10;".repeat(c) + "c3,101,10;" + "c3,100,10;".repeat(6 - c);
            DUE.is("dull is " + c, 1 << c, Due.laid(text).dull());
        }
        DUE.is("all seven", 127, Due.laid("c3,101,10;".repeat(7)).dull());
    }

    private static void pairs(TaughtClocks x, int sum, int... mates) {
        DUE.is("pairs(-1) of " + mates.length, sum, x.pairs(-1));
        for (int c = 0; c < mates.length; c++) {
            DUE.is("pairs(" + c + ") of " + mates.length, mates[c], x.pairs(c));
        }
        DUE.is("pairs(" + mates.length + ")", -1, x.pairs(mates.length));
    }

    /** "all ways to put CLOCKS in twos (one being left, if they are odd in number)". */
    private static void pairsOfOneToSeven() {
        pairs(Due.laid("c0,190,10;"), 0, -4);
        pairs(Due.laid("c0,190,10;c0,10,10;"), 180, 1, 0);
        pairs(Due.laid("c0,190,10;c0,10,10;c0,188,10;"), 2, 2, -4, 0);
        pairs(Due.laid("c0,190,10;c0,10,10;c0,188,10;c0,12,10;"), 4, 2, 3, 0, 1);
        pairs(Due.laid("c0,100,10;c0,190,10;c0,10,10;c0,188,10;c0,12,10;"), 4, -4, 3, 4, 1, 2);
        pairs(Due.laid("c0,190,10;c0,10,10;c0,100,10;c0,103,10;c0,11,10;c0,192,10;"), 6, 5, 4, 3, 2, 1, 0);
        pairs(Due.laid("c0,190,10;c0,10,10;c0,100,10;c0,103,10;c0,50,10;c0,11,10;c0,192,10;"),
            6, 6, 5, 3, 2, -4, 1, 0);
        // The last way of all, with as many as there can be.
        pairs(Due.laid("c0,110,10;c0,130,10;c0,150,10;c0,150,10;c0,130,10;c0,110,10;"), 0, 5, 4, 3, 2, 1, 0);
        pairs(Due.laid("c0,200,10;c0,110,10;c0,130,10;c0,150,10;c0,150,10;c0,130,10;c0,110,10;"),
            0, -4, 6, 5, 4, 3, 2, 1);
    }

    /** "the sum (c = -1), with whom a CLOCK is (NONE). BAD". */
    private static void pairsNumbers() {
        TaughtClocks x = Due.laid("c0,100,10;c0,101,10;c0,150,10;");
        int[] due = {-1, -1, 1, 1, 0, -4, -1, -1, -1, -1, -1};
        for (int c = -3; c <= 7; c++) {
            DUE.is("pairs(" + c + ")", due[c + 3], x.pairs(c));
        }
    }

    /** "of several the first (by whom the lowest one is with, by number". */
    private static void pairsFirstOfSeveral() {
        pairs(Due.laid("c0,100,10;".repeat(6)), 0, 1, 0, 3, 2, 5, 4);
        pairs(Due.laid("c0,100,10;c0,120,10;c0,110,10;c0,130,10;"), 20, 2, 3, 0, 1);
        // 0 1 and 2 3, or 0 2 and 1 3: both 40.
        pairs(Due.laid("c0,100,10;c0,120,10;c0,120,10;c0,140,10;"), 40, 1, 0, 3, 2);
        // 0 1 and 2 3, 0 2 and 1 3, 0 3 and 1 2: all 40.
        pairs(Due.laid("c0,100,10;c0,140,10;c0,110,10;c0,110,10;"), 40, 1, 0, 3, 2);
        // Of the rest the lowest one decides: 1 with 4, then 2 with 3 or 5.
        pairs(Due.laid("c0,100,10;c0,150,10;c0,120,10;c0,120,10;c0,150,10;c0,120,10;"), 20, 2, 4, 0, 5, 1, 3);
    }

    /** "being left behind all": with anyone is ahead of it, for the lowest one of all, then of the rest. */
    private static void pairsLeftBehindAll() {
        pairs(Due.laid("c0,100,10;".repeat(3)), 0, 1, 0, -4);
        pairs(Due.laid("c0,100,10;".repeat(5)), 0, 1, 0, 3, 2, -4);
        pairs(Due.laid("c0,100,10;".repeat(7)), 0, 1, 0, 3, 2, 5, 4, -4);
        pairs(Due.laid("c0,110,10;c0,120,10;c0,100,10;"), 10, 1, 0, -4);
        // 0 with 2 and 1 left, or 0 left and 1 with 2: 0 with 2 is ahead.
        pairs(Due.laid("c0,110,10;c0,130,10;c0,120,10;"), 10, 2, -4, 0);
        // 0 with 1; of the rest 2 with 4 and 3 left, or 2 left and 3 with 4.
        pairs(Due.laid("c0,100,10;c0,100,10;c0,150,10;c0,170,10;c0,160,10;"), 10, 1, 0, 4, -4, 2);
    }

    /** "n (1 to 30) DAYS": the least, the most, and all between. */
    private static void oilDays() {
        TaughtClocks x = Due.laid("c0,100,12;");
        for (int n = -2; n <= 34; n++) {
            boolean told = n >= 1 && n <= 30;
            DUE.is("oils(0, " + n + ", 30)", told ? n <= 15 ? 0 : 1 : -1, x.oils(0, n, 30));
            DUE.is("oils(0, " + n + ", 0)", told ? 2 : -1, x.oils(0, n, 0));
        }
    }

    /** "w (0 to 100) .. no more than w WRONG, either way". */
    private static void oilMinutes() {
        TaughtClocks above = Due.laid("c0,190,20;");
        TaughtClocks below = Due.laid("c0,10,0;");
        TaughtClocks farther = Due.laid("c0,191,20;");
        for (int w = -2; w <= 103; w++) {
            int due = w < 0 || w > 100 ? -1 : w < 90 ? -4 : 100 - w;
            DUE.is("oils(0, 1, " + w + ")", due, above.oils(0, 1, w));
            DUE.is("oils(0, 1, " + w + ") below 0", due, below.oils(0, 1, w));
        }
        DUE.is("oils(0, 1, 100) of 101", 1, farther.oils(0, 1, 100));
        DUE.is("oils(0, 1, 90) of 101", -4, farther.oils(0, 1, 90));
    }

    /** "how often at least (0 to 10)": each count is the least for some minutes. */
    private static void oilNoughtToTen() {
        for (int gain = 0; gain <= 10; gain++) {
            TaughtClocks above = Due.laid("c0,100," + (10 + gain) + ";");
            TaughtClocks below = Due.laid("c0,100," + (10 - gain) + ";");
            for (int left = 0; left <= 3; left++) {
                int due = Math.max(0, gain - left);
                DUE.is("oils for " + left + " a day of " + gain, due, above.oils(0, 30, 30 * left));
                DUE.is("oils for " + left + " a day below 0 of " + gain, due, below.oils(0, 30, 30 * left));
            }
        }
    }

    /** "(as often as it can be, if that is less)"; "none": oil brings no gain beyond 0. */
    private static void oilAsOftenAsItCanBe() {
        TaughtClocks x = Due.laid("c0,130,12;c0,70,8;c0,130,10;c0,130,9;c0,130,0;");
        DUE.is("one that gains 2, to its 30", 2, x.oils(0, 10, 30));
        DUE.is("one that gains 2, to 29", -4, x.oils(0, 10, 29));
        DUE.is("one that gains 2, to 0", -4, x.oils(0, 10, 0));
        DUE.is("one that loses 2, to its 30", 2, x.oils(1, 10, 30));
        DUE.is("one that loses 2, to 0", -4, x.oils(1, 10, 0));
        DUE.is("one that gains 0, to 30", 0, x.oils(2, 10, 30));
        DUE.is("one that gains 0, to 0", -4, x.oils(2, 30, 0));
        DUE.is("one that loses 1, right by itself", 0, x.oils(3, 30, 0));
        DUE.is("one that loses 1, on its way", -4, x.oils(3, 10, 19));
        DUE.is("one that loses 10, within 30 behind 2", 0, x.oils(4, 2, 30));
        DUE.is("one that loses 10, right behind 3 days", 0, x.oils(4, 3, 0));
        DUE.is("one that loses 10, right behind 10 days", 7, x.oils(4, 10, 0));
        DUE.is("one that loses 10, right behind 30 days", 9, x.oils(4, 30, 0));
    }

    /** Days count on from those gone by, and day 0 comes behind day 13; it is oiled now, ahead of all of them. */
    private static void oilGoesOnFromToday() {
        TaughtClocks x = Due.laid("c3,100,10;c0,150,11;l13,0,1;l0,0,1;");
        x.pass(12);
        DUE.is("ahead of day 13, to 13", 0, x.oils(1, 1, 13));
        DUE.is("ahead of day 13, to 12", 1, x.oils(1, 1, 12));
        DUE.is("ahead of day 13, to 11", -4, x.oils(1, 1, 11));
        for (int n = 2; n <= 3; n++) {
            DUE.is("taught on day " + (11 + n) + ", to 1", 0, x.oils(1, n, 1));
            DUE.is("taught on day " + (11 + n) + ", to 0", 1, x.oils(1, n, 0));
        }
        DUE.is("behind day 26", 0, x.oils(1, 15, 13));
        DUE.is("behind day 27", 0, x.oils(1, 16, 1));
        DUE.is("behind day 28", 0, x.oils(1, 17, 1));
    }

    /** "NONE; BAD": BAD is first. */
    private static void oilNumbers() {
        TaughtClocks x = Due.laid("c3,200,10;c3,0,10;");
        for (int c = -2; c <= 7; c++) {
            boolean told = c >= 0 && c < 2;
            DUE.is("oils(" + c + ", 30, 99)", told ? -4 : -1, x.oils(c, 30, 99));
            DUE.is("oils(" + c + ", 1, 100)", told ? 0 : -1, x.oils(c, 1, 100));
            DUE.is("oils(" + c + ", 0, 99)", -1, x.oils(c, 0, 99));
            DUE.is("oils(" + c + ", 31, 99)", -1, x.oils(c, 31, 99));
            DUE.is("oils(" + c + ", 30, -1)", -1, x.oils(c, 30, -1));
            DUE.is("oils(" + c + ", 30, 101)", -1, x.oils(c, 30, 101));
        }
    }

    /** The same is asked again, behind each change, behind more and behind fewer clocks: as it is then. */
    private static void askedAgain() {
        TaughtClocks x = Due.laid("c0,100,10;c0,100,10;c0,150,10;c0,150,10;");
        pairs(x, 0, 1, 0, 3, 2);
        DUE.is("ring(0)", 0, x.ring(0));
        right(x, 0, 2, 2, 3);
        x.teach(2, 1);
        pairs(x, 50, 1, 0, 3, 2);
        right(x, 0, -4, -4, -4);
        x.teach(2, 0);
        pairs(x, 0, 1, 0, 3, 2);
        DUE.is("ring(0), all wrong", 200, x.ring(0));
        x.undo();
        x.undo();
        DUE.is("ring(0), undone", 0, x.ring(0));
        right(x, 0, 2, 2, 3);
        Due.write(x, "c0,150,10;c0,100,10;c0,160,10;");
        x.lay();
        pairs(x, 10, 2, -4, 0);
        DUE.is("ring(0) of fewer", 150, x.ring(0));
        DUE.is("ring(4) of fewer", -4, x.ring(4));
        right(x, 0, 2, 10, 2);
        right(x, 60, 0, -4, -4);
        Due.write(x, "c3,101,10;".repeat(7));
        x.lay();
        DUE.is("ring(0) of more", 7, x.ring(0));
        DUE.is("ring(7) of more", 6, x.ring(7));
        right(x, 0, -4, -4, -4);
        right(x, 1, 0, -4, -4);
    }

    /** What is asked about days to come changes nothing of today. */
    private static void nothingChangesByAsking() {
        TaughtClocks asked = new TaughtClocks();
        TaughtClocks other = new TaughtClocks();
        for (TaughtClocks x : new TaughtClocks[] {asked, other}) {
            x.pass(6);
            x.keep();
            x.oil(4);
            x.hear(0, 600);
        }
        asked.behind(60, -1);
        asked.right(5, 2);
        asked.ring(3);
        asked.dull();
        asked.pairs(2);
        asked.oils(4, 30, 0);
        asked.taught(1);
        asked.setter(1);
        asked.child(0);
        asked.draughts(0, 6, 5, 1);
        asked.year(9999, 60, 1);
        DUE.is("behind what was asked", Sight.whole(other), Sight.whole(asked));
    }
}

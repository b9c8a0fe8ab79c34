/** The bounds that the document's sentences on LESSONS, DAYS, WALLS and UNDONE name, and promises 9 to 13: a test each. */
public final class DayBoundsTest {
    private static final Due DUE = new Due();

    public static void main(String[] args) {
        dayZero();
        daysOfPass();
        daysGoneByInAll();
        lessonDaysComeAgain();
        lessonOfDayThirteenAndNought();
        plain();
        slowHalfWayCut();
        cuckooOneMore();
        blindIsNotTaught();
        sundays();
        lessonsToldForSundays();
        lessonThenWallThenGain();
        lessonsInTheOrderTold();
        wallsApart();
        wallsInOrder();
        wallsOfBlindOnes();
        neverMoreThanSixHundred();
        neverLessThanSixHundred();
        sixHundredIsNotGoneBeyondInSecret();
        cuckooAtTheMost();
        slowOverAll();
        wallsAtTheMost();
        teachNumbers();
        setAnyMinutes();
        oilNearerToNought();
        oilAtNought();
        undoOfNothing();
        undoEachKind();
        undoIsOneStepACall();
        undoTheLastEight();
        undoBringsBack();
        DUE.end("DayBoundsTest");
    }

    private static void wrong(String when, int want, TaughtClocks x, int c) {
        DUE.is("clock " + c + " " + when, 600 + want, x.clock(c, 1));
    }

    private static void passAll(TaughtClocks x, int days) {
        for (int left = days; left > 0; left -= 20) {
            x.pass(Math.min(20, left));
        }
    }

    /** "Day 0 is the first one". */
    private static void dayZero() {
        TaughtClocks x = Due.laid("c0,107,10;c0,150,10;l0,0,1;");
        DUE.is("day at first", 0, x.count(3));
        x.pass(1);
        wrong("behind the first day", 7, x, 1);
        x = Due.laid("c0,107,10;c0,150,10;l1,0,1;");
        x.pass(1);
        wrong("ahead of day 1", 50, x, 1);
        x.pass(1);
        wrong("behind day 1", 7, x, 1);
    }

    /** "n DAYS (1 to 20) go by .. BAD". */
    private static void daysOfPass() {
        for (int n = -3; n <= 25; n++) {
            TaughtClocks x = Due.laid("c0,100,11;");
            boolean told = n >= 1 && n <= 20;
            DUE.is("pass(" + n + ")", told ? n : -1, x.pass(n));
            DUE.is("days behind pass(" + n + ")", told ? n : 0, x.count(3));
            DUE.is("undone behind pass(" + n + ")", told ? 1 : 0, x.count(6));
            wrong("behind pass(" + n + ")", told ? n : 0, x, 0);
        }
    }

    /** "how many have gone by in all". */
    private static void daysGoneByInAll() {
        TaughtClocks x = Due.laid("c0,100,10;");
        int in = 0;
        for (int n = 1; n <= 20; n++) {
            in += n;
            DUE.is("days in all", in, x.pass(n));
        }
        DUE.is("days in all", 210, x.count(3));
        DUE.is("BAD is none of them", -1, x.pass(21));
        DUE.is("days in all", 211, x.pass(1));
    }

    /** "on day D .. behind day 13 day 0 comes again": each day of lessons, through three rounds. */
    private static void lessonDaysComeAgain() {
        for (int told = 0; told <= 13; told++) {
            TaughtClocks x = Due.laid("c0,107,10;c0,100,11;l" + told + ",0,1;");
            TaughtClocks ahead = Due.laid("c0,107,10;c0,100,11;l" + told + ",0,1;");
            int due = 0;
            for (int day = 0; day < 42; day++) {
                due = (day % 14 == told ? 7 : due) + 1;
                x.pass(1);
                wrong("behind day " + day + " by a lesson of day " + told, due, x, 1);
                DUE.is("behind(" + (day + 1) + ", 1) by a lesson of day " + told, 600 + due, ahead.behind(day + 1, 1));
            }
        }
    }

    /** Days 13, 14 and 15 are 13, 0 and 1. */
    private static void lessonOfDayThirteenAndNought() {
        TaughtClocks x = Due.laid("c0,107,10;c0,150,10;c0,190,10;l13,0,1;l0,1,2;");
        x.pass(13);
        DUE.wrongsAre("ahead of day 13", "7,50,50", x);
        x.pass(1);
        DUE.wrongsAre("behind day 13", "7,7,50", x);
        x.pass(1);
        DUE.wrongsAre("behind day 14", "7,7,7", x);
        x = Due.laid("c0,107,10;c0,150,11;l0,0,1;");
        x.pass(20);
        wrong("behind 20 days", 13, x, 1);
        x.pass(8);
        wrong("ahead of day 28", 21, x, 1);
        x.pass(1);
        wrong("behind day 28", 8, x, 1);
    }

    private static int taught(int kind, int teacher, int pupil) {
        TaughtClocks x = Due.laid("c3," + (100 + teacher) + ",10;c" + kind + "," + (100 + pupil) + ",10;");
        return x.teach(0, 1) - 600;
    }

    /** "a PLAIN b is as WRONG as a then". */
    private static void plain() {
        for (int teacher : new int[] {-100, -1, 0, 1, 100}) {
            for (int pupil : new int[] {-100, 0, 100}) {
                DUE.is("a plain one by " + teacher, teacher, taught(0, teacher, pupil));
            }
        }
    }

    /** "a SLOW one goes half of the way there, cut": each way, even and odd, over 0 and on either side of it. */
    private static void slowHalfWayCut() {
        int[] halves = {0, 0, 1, 1, 2, 2, 3, 3, 4};
        for (int apart = 0; apart < halves.length; apart++) {
            for (int pupil : new int[] {-50, -3, 0, 2, 50}) {
                DUE.is("slow, " + apart + " ahead of " + pupil, pupil + halves[apart], taught(1, pupil + apart, pupil));
                DUE.is("slow, " + apart + " below " + pupil, pupil - halves[apart], taught(1, pupil - apart, pupil));
            }
        }
        DUE.is("slow, all the way up", 0, taught(1, 100, -100));
        DUE.is("slow, all the way down", 0, taught(1, -100, 100));
        DUE.is("slow, 199 up", -1, taught(1, 99, -100));
        DUE.is("slow, 199 down", 1, taught(1, -99, 100));
    }

    /** "a CUCKOO is 1 more than a". */
    private static void cuckooOneMore() {
        for (int teacher : new int[] {-100, -2, -1, 0, 1, 100}) {
            DUE.is("a cuckoo by " + teacher, teacher + 1, taught(2, teacher, 40));
            DUE.is("a cuckoo alike " + teacher, teacher + 1, taught(2, teacher, teacher));
        }
    }

    /** "a BLIND one is not taught": on no day, by nobody. */
    private static void blindIsNotTaught() {
        TaughtClocks x = Due.laid("c0,107,10;c3,150,10;c3,160,10;l0,0,1;l6,0,1;l13,2,1;");
        for (int day = 0; day < 28; day++) {
            DUE.is("a blind one on day " + day, -2, x.teach(0, 1));
            DUE.is("a blind one by a blind one on day " + day, -2, x.teach(2, 1));
            x.pass(1);
        }
        DUE.wrongsAre("blind ones behind all lessons", "7,50,60", x);
    }

    /** "a SUNDAY one is taught as a PLAIN one on days whose number is 6 modulo 7, else not". */
    private static void sundays() {
        TaughtClocks x = Due.laid("c0,107,10;c4,150,10;");
        for (int day = 0; day <= 42; day++) {
            boolean sunday = day == 6 || day == 13 || day == 20 || day == 27 || day == 34 || day == 41;
            DUE.is("a lesson on day " + day, sunday ? 607 : -2, x.teach(0, 1));
            DUE.is("lessons on day " + day, sunday ? 1 : 0, x.taught(0) - 1);
            wrong("on day " + day, day < 6 ? 50 : 7, x, 1);
            x.pass(1);
        }
    }

    /** Lessons told for one of Sundays count on days 6 and 13 alone, and on the days that come again. */
    private static void lessonsToldForSundays() {
        for (int told = 0; told <= 13; told++) {
            TaughtClocks x = Due.laid("c0,107,10;c4,100,11;l" + told + ",0,1;");
            int due = 0;
            for (int day = 0; day < 29; day++) {
                due = (day % 14 == told && (told == 6 || told == 13) ? 7 : due) + 1;
                x.pass(1);
                wrong("behind day " + day + ", told for day " + told, due, x, 1);
            }
        }
    }

    /** "A DAY, one step behind the other: 1 LESSONS .. 2 .. WALL .. 3 .. GAINS". */
    private static void lessonThenWallThenGain() {
        // The lesson makes them alike, so that nothing is heard; they gain then.
        TaughtClocks x = Due.laid("c0,104,13;c0,150,8;w0,1;l0,0,1;");
        x.pass(1);
        DUE.wrongsAre("lesson, wall, gain", "7,2", x);
        // 7 and 2 are heard as 6 and 3 ahead of their gains.
        x.pass(1);
        DUE.wrongsAre("wall, gain", "9,1", x);
    }

    /** "1 LESSONS told for it, in the order told". */
    private static void lessonsInTheOrderTold() {
        TaughtClocks x = Due.laid("c0,107,10;c0,120,10;c2,130,10;l1,2,0;l0,2,1;l0,0,2;l0,0,1;");
        x.pass(1);
        DUE.wrongsAre("lessons of day 0", "7,7,8", x);
        x.pass(1);
        DUE.wrongsAre("lesson of day 1", "8,7,8", x);
        // The same lesson twice on a day is two: a slow one goes half of the way, then half of the rest.
        x = Due.laid("c0,100,10;c1,140,10;l0,0,1;l0,0,1;");
        x.pass(1);
        DUE.wrongsAre("a lesson told twice", "0,10", x);
    }

    private static void heard(int a, int b, String want) {
        TaughtClocks x = Due.laid("c0," + (100 + a) + ",10;c0," + (100 + b) + ",10;w0,1;");
        x.pass(1);
        DUE.wrongsAre("heard by " + a + " and " + b, want, x);
    }

    /** "if both are not alike WRONG then, the one ahead goes a minute back, and, if .. more than 1 apart .." */
    private static void wallsApart() {
        heard(0, 0, "0,0");
        heard(5, 5, "5,5");
        heard(1, 0, "0,0");
        heard(0, 1, "0,0");
        heard(0, -1, "-1,-1");
        heard(-1, 0, "-1,-1");
        heard(2, 0, "1,1");
        heard(0, 2, "1,1");
        heard(-2, 0, "-1,-1");
        heard(3, 0, "2,1");
        heard(0, 3, "1,2");
        heard(1, -1, "0,0");
        heard(2, -1, "1,0");
        heard(-1, -4, "-2,-3");
        heard(100, -100, "99,-99");
        heard(-100, 100, "-99,99");
    }

    /** "(those of CLOCK 0 first, to 1, 2, .., then of 1 to higher ones, ..)", each by how they are then. */
    private static void wallsInOrder() {
        // 0 1: 1, 1, 4; 0 2: 2, 1, 3; 1 2: 2, 2, 2.
        TaughtClocks x = Due.laid("c0,100,10;c0,102,10;c0,104,10;w1,2;w0,2;w0,1;");
        x.pass(1);
        DUE.wrongsAre("0 to 1, 0 to 2, 1 to 2", "2,2,2", x);
        // 0 3: 1, 0, 9, 2; 1 2: 1, 1, 8, 2; 2 3: 1, 1, 7, 3.
        x = Due.laid("c0,100,10;c0,100,10;c0,109,10;c0,103,10;w2,3;w1,2;w0,3;");
        x.pass(1);
        DUE.wrongsAre("0 to 3, 1 to 2, 2 to 3", "1,1,7,3", x);
        // 0 2: 0, 0, 0; 1 2: 0, 0, 0 (1 apart no more).
        x = Due.laid("c0,100,10;c0,100,10;c0,101,10;w1,2;w2,0;");
        x.pass(1);
        DUE.wrongsAre("0 to 2 ahead of 1 to 2", "0,0,0", x);
        // 5 6 is the last of all.
        x = Due.laid("c0,100,10;".repeat(5) + "c0,105,10;c0,101,10;w6,5;w4,6;");
        x.pass(1);
        DUE.wrongsAre("4 to 6 ahead of 5 to 6", "0,0,0,0,0,4,1", x);
    }

    /** A wall is heard through by those that can not be taught, too. */
    private static void wallsOfBlindOnes() {
        TaughtClocks x = Due.laid("c3,104,10;c4,100,10;w0,1;");
        x.pass(1);
        DUE.wrongsAre("a blind one, one of Sundays", "3,1", x);
        x.pass(1);
        DUE.wrongsAre("once more", "2,2", x);
    }

    /** "it is never more than 600". */
    private static void neverMoreThanSixHundred() {
        TaughtClocks x = Due.laid("c0,199,11;c0,200,20;c3,200,19;");
        passAll(x, 50);
        DUE.wrongsAre("50 days", "149,600,550", x);
        passAll(x, 5);
        DUE.wrongsAre("55 days", "154,600,595", x);
        x.pass(1);
        DUE.wrongsAre("56 days", "155,600,600", x);
        x.teach(2, 0);
        x.pass(1);
        DUE.wrongsAre("by a minute", "600,600,600", x);
        DUE.is("behind 60 more", 1200, x.behind(60, 2));
        DUE.is("noon at the most", 1200, x.noon());
        x = Due.laid("c0,200,20;");
        DUE.is("behind 50", 1200, x.behind(50, 0));
        DUE.is("behind 51", 1200, x.behind(51, 0));
        DUE.is("behind 49", 1190, x.behind(49, 0));
    }

    /** "never less than 600 below 0". */
    private static void neverLessThanSixHundred() {
        TaughtClocks x = Due.laid("c0,1,9;c0,0,0;c3,0,1;");
        passAll(x, 50);
        DUE.wrongsAre("50 days", "-149,-600,-550", x);
        passAll(x, 5);
        DUE.wrongsAre("55 days", "-154,-600,-595", x);
        x.pass(1);
        DUE.wrongsAre("56 days", "-155,-600,-600", x);
        x.teach(2, 0);
        x.pass(1);
        DUE.wrongsAre("by a minute", "-600,-600,-600", x);
        DUE.is("behind 60 more", 0, x.behind(60, 2));
        DUE.is("noon at the least", 0, x.noon());
        x = Due.laid("c0,0,0;");
        DUE.is("behind 50", 0, x.behind(50, 0));
        DUE.is("behind 51", 0, x.behind(51, 0));
        DUE.is("behind 49", 10, x.behind(49, 0));
    }

    /** One that stood at 600 for days is just 600 wrong: it goes back from there. */
    private static void sixHundredIsNotGoneBeyondInSecret() {
        TaughtClocks x = Due.laid("c0,200,20;c1,100,10;c3,0,0;c0,100,10;w2,3;");
        passAll(x, 80);
        DUE.is("half of the way to 600", 900, x.teach(0, 1));
        DUE.is("half of the way to 600 below 0", 450, x.teach(2, 1));
        x = Due.laid("c0,200,20;c0,0,0;c3,100,10;w0,2;");
        passAll(x, 80);
        // The wall takes a minute, ten are gained, and what is more than 600 is cut.
        DUE.wrongsAre("heard at the most", "600,-600,80", x);
        for (int i = 0; i < 10; i++) {
            x.oil(0);
            x.oil(1);
        }
        x.pass(1);
        DUE.wrongsAre("oiled, it is heard from 600 on", "599,-600,81", x);
    }

    /** "a CUCKOO is 1 more than a", but never more than 600. */
    private static void cuckooAtTheMost() {
        TaughtClocks x = Due.laid("c0,200,20;c2,100,10;c0,199,10;c0,0,0;");
        passAll(x, 50);
        DUE.is("a cuckoo by 600", 1200, x.teach(0, 1));
        DUE.is("a cuckoo by 600 again", 1200, x.teach(0, 1));
        DUE.is("a cuckoo by 600 below 0", 1, x.teach(3, 1));
        x.set(2);
        DUE.is("a cuckoo by 0", 601, x.teach(2, 1));
        x = Due.laid("c0,199,20;c2,100,10;");
        passAll(x, 50);
        DUE.is("a cuckoo by 599", 1200, x.teach(0, 1));
        x = Due.laid("c0,198,20;c2,100,10;l8,0,1;");
        passAll(x, 50);
        DUE.is("a cuckoo by 598", 1199, x.teach(0, 1));
        DUE.is("a cuckoo by 598, seen ahead", 1199, x.behind(0, 1));
        x.pass(1);
        DUE.is("a lesson told, a day behind 600", 1200, x.behind(14, 1));
    }

    /** Half of 1200 minutes, either way. */
    private static void slowOverAll() {
        TaughtClocks x = Due.laid("c0,200,20;c1,0,0;c0,0,0;c1,200,20;");
        passAll(x, 60);
        DUE.is("slow, from 600 below 0", 600, x.teach(0, 1));
        DUE.is("slow, from 600", 600, x.teach(2, 3));
        DUE.is("slow, from 0 to 600", 900, x.teach(0, 1));
        DUE.is("slow, from 0 to 600 below 0", 300, x.teach(2, 3));
    }

    /** Two at 600 are alike, however much they would gain; those that gain 0 stay there. */
    private static void wallsAtTheMost() {
        TaughtClocks x = Due.laid("c0,200,20;c0,200,20;c0,0,0;c0,0,0;w0,1;w2,3;");
        passAll(x, 60);
        DUE.wrongsAre("alike at the most", "600,600,-600,-600", x);
        x = Due.laid("c0,200,20;c0,0,0;");
        passAll(x, 60);
        for (int i = 0; i < 10; i++) {
            x.oil(0);
            x.oil(1);
        }
        x.pass(20);
        DUE.wrongsAre("they stay there, oiled", "600,-600", x);
    }

    /** "BAD (alike, too); NO: it is not taught": of both, BAD. */
    private static void teachNumbers() {
        TaughtClocks x = Due.laid("c0,107,10;c3,150,10;c4,160,10;");
        for (int a = -2; a <= 8; a++) {
            for (int b = -2; b <= 8; b++) {
                boolean told = a >= 0 && a < 3 && b >= 0 && b < 3 && a != b;
                if (!told || b != 0) {
                    DUE.is("teach(" + a + ", " + b + ")", told ? -2 : -1, x.teach(a, b));
                }
            }
        }
        DUE.is("none of these can be undone", 0, x.count(6));
        DUE.wrongsAre("none of these taught", "7,50,60", x);
        DUE.is("teach(2, 0)", 660, x.teach(2, 0));
    }

    /** "A CLOCK is SET: how WRONG it was, and 600. BAD": any kind, on any day, right or not. */
    private static void setAnyMinutes() {
        TaughtClocks x = Due.laid("c0,200,20;c3,0,0;c4,100,10;");
        DUE.is("set(-1)", -1, x.set(-1));
        DUE.is("set(3)", -1, x.set(3));
        DUE.is("set(7)", -1, x.set(7));
        DUE.is("BAD can not be undone", 0, x.count(6));
        passAll(x, 60);
        DUE.is("set at the most", 1200, x.set(0));
        DUE.is("set at the least", 0, x.set(1));
        DUE.is("set a right one", 600, x.set(2));
        DUE.wrongsAre("all set", "0,0,0", x);
        DUE.is("all are right", 3, x.count(4));
        DUE.is("a right one set can be undone", 6, x.count(6));
    }

    /** "it GAINS 1 nearer to 0": from 10 and from 10 below 0, then "NO: 0 already". */
    private static void oilNearerToNought() {
        TaughtClocks x = Due.laid("c0,100,20;c3,100,0;");
        for (int i = 1; i <= 10; i++) {
            DUE.is("oil down, " + i, 20 - i, x.oil(0));
            DUE.is("oil up, " + i, i, x.oil(1));
        }
        DUE.is("oil at 0 from above", -2, x.oil(0));
        DUE.is("oil at 0 from below", -2, x.oil(1));
        DUE.is("gain at 0", 10, x.clock(0, 2));
        x.undo();
        DUE.is("oil, the last one undone", 10, x.oil(1));
        DUE.is("oil at 0 again", -2, x.oil(1));
    }

    /** "BAD; NO: 0 already": they change nothing. */
    private static void oilAtNought() {
        TaughtClocks x = Due.laid("c0,100,10;c0,100,11;c0,100,9;");
        DUE.is("oil(-1)", -1, x.oil(-1));
        DUE.is("oil(3)", -1, x.oil(3));
        DUE.is("oil(7)", -1, x.oil(7));
        DUE.is("oil(0)", -2, x.oil(0));
        DUE.is("none of these can be undone", -2, x.undo());
        DUE.is("oil(1)", 10, x.oil(1));
        DUE.is("oil(1) again", -2, x.oil(1));
        DUE.is("oil(2)", 10, x.oil(2));
        DUE.is("oil(2) again", -2, x.oil(2));
        DUE.is("two can be undone", 2, x.count(6));
    }

    /** "NO". */
    private static void undoOfNothing() {
        TaughtClocks x = Due.laid("c0,100,11;");
        DUE.is("undo at first", -2, x.undo());
        x.hear(0, 600);
        x.keep();
        x.write('c');
        DUE.is("undo of what can not be", -2, x.undo());
        x.pass(1);
        DUE.is("undo of a day", 0, x.undo());
        DUE.is("undo behind that", -2, x.undo());
        DUE.is("day", 0, x.count(3));
    }

    /** "the latest DAYS, LESSON, SETTING, oiling", each by itself, those that change nothing too. */
    private static void undoEachKind() {
        TaughtClocks x = Due.laid("c0,107,12;c0,107,8;l0,0,1;");
        x.pass(1);
        DUE.is("undo a day", 0, x.undo());
        DUE.wrongsAre("a day undone", "7,7", x);
        x.teach(0, 1);
        DUE.is("a lesson that changed nothing", 1, x.count(6));
        DUE.is("undo it", 0, x.undo());
        x.set(0);
        DUE.is("undo a setting", 0, x.undo());
        DUE.wrongsAre("a setting undone", "7,7", x);
        x.oil(1);
        DUE.is("undo an oiling", 0, x.undo());
        DUE.is("gain", 8, x.clock(1, 2));
        x.set(0);
        x.teach(0, 1);
        DUE.is("undo a lesson", 1, x.undo());
        DUE.wrongsAre("a lesson undone", "0,7", x);
    }

    /** "all that go by at one time are one". */
    private static void undoIsOneStepACall() {
        TaughtClocks x = Due.laid("c0,100,11;");
        x.pass(20);
        DUE.is("20 days are one", 1, x.count(6));
        x.pass(7);
        DUE.is("7 more are another one", 2, x.count(6));
        DUE.is("undo 7", 1, x.undo());
        DUE.is("days", 20, x.count(3));
        DUE.is("undo 20", 0, x.undo());
        DUE.is("days", 0, x.count(3));
        wrong("undone", 0, x, 0);
    }

    /** "the last 8 can be": of 9 the first one can not, of all kinds together. */
    private static void undoTheLastEight() {
        for (int steps = 0; steps <= 20; steps++) {
            TaughtClocks x = Due.laid("c0,100,20;c3,100,11;");
            for (int i = 0; i < steps; i++) {
                step(x, i);
            }
            int can = Math.min(8, steps);
            DUE.is("can be undone of " + steps, can, x.count(6));
            for (int left = can - 1; left >= 0; left--) {
                DUE.is("undo of " + steps, left, x.undo());
                DUE.is("can be undone then", left, x.count(6));
            }
            DUE.is("undo one more of " + steps, -2, x.undo());
            TaughtClocks due = Due.laid("c0,100,20;c3,100,11;");
            for (int i = 0; i < steps - can; i++) {
                step(due, i);
            }
            DUE.is("days, undone to step " + (steps - can), due.count(3), x.count(3));
            DUE.is("gain then", due.clock(0, 2), x.clock(0, 2));
            DUE.wrongsAre("clocks then", Due.wrongs(due), x);
        }
    }

    private static void step(TaughtClocks x, int i) {
        switch (i % 4) {
            case 0: x.pass(1 + i % 20); break;
            case 1: x.oil(0); break;
            case 2: x.teach(1, 0); break;
            default: x.set(i / 4 % 2); break;
        }
    }

    /** What is undone leaves what is heard, what is kept and the text; what comes then can be undone again. */
    private static void undoBringsBack() {
        TaughtClocks x = Due.laid("c0,120,12;c0,150,10;");
        x.pass(6);
        x.hear(0, 620);
        x.keep();
        x.wipe();
        x.write('c');
        DUE.is("undo", 0, x.undo());
        DUE.is("heard", 1, x.count(5));
        DUE.is("kept", 1, x.count(7));
        DUE.is("letters", 1, x.count(8));
        DUE.is("pass again", 3, x.pass(3));
        DUE.is("can be undone", 1, x.count(6));
        DUE.is("undo again", 0, x.undo());
        DUE.wrongsAre("at first", "20,50", x);
    }
}

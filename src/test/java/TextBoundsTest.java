/** The bounds that the document's sentences on a TEXT, its ITEMS, FAULT and LAID name, and promises 1 to 8: a test each. */
public final class TextBoundsTest {
    private static final Due DUE = new Due();

    private static final String FIRST =
        "c0,100,10;c1,112,11;c2,95,10;c3,130,9;c4,80,12;w0,1;w1,2;w3,4;l0,0,1;l1,1,2;l2,2,4;l6,0,4;l9,4,3;";
    private static final String CLOCK = "c0,100,10;";
    private static final String TWO = CLOCK + CLOCK;

    public static void main(String[] args) {
        emptyText();
        textOfTwoHundred();
        faultInTheLastOfTwoHundred();
        lettersThatAreTaken();
        lengthOfText();
        figuresOfNumbers();
        itemsEnd();
        numbersOfItems();
        kinds();
        minutesWrong();
        gains();
        sevenClocks();
        walls();
        wallToldOnceMore();
        lessonDays();
        lessonsOfTwo();
        nineLessons();
        firstFaultOfSeveral();
        everyTextNearARightOne();
        newObject();
        layOfOne();
        layOfFaults();
        layBeginsAnew();
        clockNumbers();
        wallNumbers();
        noonOfAsMany();
        allCallsOfAnObject();
        DUE.end("TextBoundsTest");
    }

    private static void fault(String text, int want) {
        DUE.is("fault of " + text, want, Due.faultOf(text));
    }

    /** "THE TEXT is empty"; "of a CLOCK at least (NO else"; "NONE". */
    private static void emptyText() {
        TaughtClocks x = new TaughtClocks();
        DUE.is("length of an empty text", 0, x.count(8));
        DUE.is("fault of an empty text", -4, x.fault());
        DUE.is("lay of an empty text", -2, x.lay());
        DUE.is("wipe of an empty text", 0, x.wipe());
        DUE.is("the house stays", 5, x.count(0));
        Due.write(x, CLOCK);
        DUE.is("lay of a clock", 1, x.lay());
        DUE.is("wipe of a clock", 10, x.wipe());
        DUE.is("fault of a wiped text", -4, x.fault());
        DUE.is("lay of a wiped text", -2, x.lay());
        DUE.is("the clock stays", 1, x.count(0));
    }

    /** Seven clocks, three lessons, 26 walls: 49, 21 and 130 letters. */
    private static String twoHundred() {
        return "c0,1,1;".repeat(7) + "l0,0,1;".repeat(3) + "w0,1;".repeat(25) + "w5,6;";
    }

    /** "letters (200 at most)": all of 200 count, the last one too. */
    private static void textOfTwoHundred() {
        TaughtClocks x = new TaughtClocks();
        String text = twoHundred();
        for (int i = 0; i < 199; i++) {
            DUE.is("write " + (i + 1), i + 1, x.write(text.charAt(i)));
        }
        DUE.is("fault of 199 letters", 195, x.fault());
        DUE.is("lay of 199 letters", -2, x.lay());
        DUE.is("write 200", 200, x.write(';'));
        DUE.is("write 201", -3, x.write(';'));
        DUE.is("write 202", -3, x.write('c'));
        DUE.is("length at the full", 200, x.count(8));
        DUE.is("fault of 200 letters", -4, x.fault());
        DUE.is("lay of 200 letters", 7, x.lay());
        DUE.is("walls of 200 letters", 2, x.count(1));
        DUE.is("the last wall of 200 letters", 1, x.wall(5, 6));
        DUE.is("lessons of 200 letters", 3, x.count(2));
        DUE.is("the full text stays", 200, x.count(8));
        DUE.is("write behind lay", -3, x.write('c'));
        DUE.is("wipe of 200 letters", 200, x.wipe());
        DUE.is("write behind wipe", 1, x.write('c'));
        DUE.is("the new letter alone is there", 0, x.fault());
    }

    /** The 200th letter alone is one too many for a right text of 199. */
    private static void faultInTheLastOfTwoHundred() {
        String text = "c0,1,1;".repeat(7) + "w0,1;".repeat(30);
        fault(text, -4);
        fault(text + "w", 199);
        fault(text + " ", 199);
    }

    /** "A letter (32 to 126, as in ASCII)"; "BAD". */
    private static void lettersThatAreTaken() {
        for (int letter = -200; letter <= 500; letter++) {
            TaughtClocks x = new TaughtClocks();
            boolean taken = letter >= 32 && letter <= 126;
            DUE.is("write(" + letter + ")", taken ? 1 : -1, x.write(letter));
            DUE.is("length behind " + letter, taken ? 1 : 0, x.count(8));
        }
        for (int wild : new int[] {Integer.MIN_VALUE, Integer.MAX_VALUE, 65536 + 'c', 256 + 'c', -'c'}) {
            DUE.is("write(" + wild + ")", -1, new TaughtClocks().write(wild));
        }
    }

    /** "comes behind THE TEXT: how long it is"; "BAD; FULL": BAD is no letter, at the full BAD is first. */
    private static void lengthOfText() {
        TaughtClocks x = new TaughtClocks();
        DUE.is("write a first one", 1, x.write('c'));
        DUE.is("write(31)", -1, x.write(31));
        DUE.is("write a second one", 2, x.write('0'));
        Due.write(x, twoHundred());
        DUE.is("write(31) at the full", -1, x.write(31));
        DUE.is("write(127) at the full", -1, x.write(127));
        DUE.is("write(32) at the full", -3, x.write(32));
        DUE.is("write(126) at the full", -3, x.write(126));
        DUE.is("the full text is as it was", -4, x.fault());
    }

    /** "numbers (one to three figures)": at each place of each item none and four are a fault, three are not. */
    private static void figuresOfNumbers() {
        String[][] items = {{"c", "0", "1", "2"}, {"w", "0", "1"}, {"l", "3", "0", "1"}};
        for (String[] item : items) {
            for (int place = 1; place < item.length; place++) {
                String own = item[place];
                String[] right = {own, "0" + own, "00" + own};
                for (String number : right) {
                    fault(TWO + itemWith(item, place, number), -4);
                }
                for (String number : new String[] {"", "000" + own, "0000" + own, "-" + own, "+" + own, own + " "}) {
                    fault(TWO + itemWith(item, place, number), 20);
                }
            }
        }
        fault(TWO + "l007,000,001;", -4);
        fault("c1000,1,1;", 0);
        fault("c4294967296,1,1;", 0);
        fault("c0,4294967296,1;", 0);
        // One number too many, of four figures: the numbers ahead of it make no item.
        fault(TWO + "c0,1,2,0000;", 20);
        fault(TWO + "w0,1,0000;", 20);
        fault(TWO + "l3,0,1,0000;w0,2;", 20);
    }

    private static String itemWith(String[] item, int place, String number) {
        StringBuilder out = new StringBuilder(item[0]);
        for (int i = 1; i < item.length; i++) {
            out.append(i > 1 ? "," : "").append(i == place ? number : item[i]);
        }
        return out.append(';').toString();
    }

    /** "parted by , and a ; behind the last one". */
    private static void itemsEnd() {
        for (String item : new String[] {"c0,1,2", "w0,1", "l3,0,1"}) {
            fault(TWO + item + ";", -4);
            fault(TWO + item, 20);
            fault(TWO + item + ",", 20);
            fault(TWO + item + ",;", 20);
            fault(TWO + item + ".", 20);
            fault(TWO + item + ";;", 20 + item.length() + 1);
            fault(TWO + item + ";" + item, 20 + item.length() + 1);
            fault(TWO + item.replace(',', ';') + ";", 20);
            fault(TWO + item.replace(',', '.') + ";", 20);
            fault(TWO + item.substring(1) + ";", 20);
            fault(TWO + item.charAt(0) + item + ";", 20);
            fault(TWO + item.toUpperCase() + ";", 20);
            fault(" " + TWO + item + ";", 0);
        }
    }

    /** cK,E,G has three numbers, wA,B two, lD,A,B three: one more, one less is a fault; no other letter begins one. */
    private static void numbersOfItems() {
        fault(TWO + "c0,1;", 20);
        fault(TWO + "c0,1,2,3;", 20);
        fault(TWO + "w0;", 20);
        fault(TWO + "w0,1,1;", 20);
        fault(TWO + "l1,0;", 20);
        fault(TWO + "l1,0,1,1;", 20);
        fault(TWO + "l1,0,1,0,1,0,1;", 20);
        // What an item leaves out is not taken from the one ahead of it.
        fault(TWO + "c0,1,2;c0,1;", 27);
        fault(TWO + "c0,1,2;c0;", 27);
        fault(TWO + "w0,1;w0;", 25);
        fault(TWO + "l3,0,1;l3,0;", 27);
        fault(TWO + "l3,0,1;l3;", 27);
        fault(TWO + "l1,0,1;w0;", 27);
        for (char letter = ' '; letter <= '~'; letter++) {
            fault(TWO + letter + "0,1;", letter == 'w' ? -4 : 20);
            fault(TWO + letter + "1,0,1;", letter == 'c' || letter == 'l' ? -4 : 20);
        }
    }

    /** "KIND K (0 PLAIN, 1 SLOW, 2 CUCKOO, 3 BLIND, 4 SUNDAY)". */
    private static void kinds() {
        for (int kind = 0; kind <= 999; kind++) {
            fault("c" + kind + ",100,10;", kind <= 4 ? -4 : 0);
        }
        TaughtClocks x = Due.laid("c0,1,1;c1,1,1;c2,1,1;c3,1,1;c4,1,1;");
        for (int kind = 0; kind <= 4; kind++) {
            DUE.is("kind " + kind, kind, x.clock(kind, 0));
        }
    }

    /** "E less 100 minutes WRONG (E 0 to 200)". */
    private static void minutesWrong() {
        for (int e = 0; e <= 999; e++) {
            fault("c0," + e + ",10;", e <= 200 ? -4 : 0);
        }
        DUE.is("wrong by E 0", 500, Due.laid("c0,0,10;").clock(0, 1));
        DUE.is("wrong by E 99", 599, Due.laid("c0,99,10;").clock(0, 1));
        DUE.is("wrong by E 100", 600, Due.laid("c0,100,10;").clock(0, 1));
        DUE.is("wrong by E 200", 700, Due.laid("c0,200,10;").clock(0, 1));
    }

    /** "GAINS G less 10 a day (G 0 to 20)". */
    private static void gains() {
        for (int g = 0; g <= 999; g++) {
            fault("c0,100," + g + ";", g <= 20 ? -4 : 0);
        }
        for (int g = 0; g <= 20; g++) {
            TaughtClocks x = Due.laid("c0,100," + g + ";");
            DUE.is("gain by G " + g, g, x.clock(0, 2));
            x.pass(1);
            DUE.is("wrong by G " + g, 590 + g, x.clock(0, 1));
        }
    }

    /** "7 at most, 0, 1, ..". */
    private static void sevenClocks() {
        StringBuilder text = new StringBuilder();
        for (int c = 0; c < 7; c++) {
            text.append("c").append(c % 5).append(",10").append(c).append(",1").append(c).append(";");
            TaughtClocks x = Due.laid(text.toString());
            DUE.is("clocks", c + 1, x.count(0));
            DUE.is("the last one's kind", c % 5, x.clock(c, 0));
            DUE.is("the last one is wrong", 600 + c, x.clock(c, 1));
            DUE.is("the last one gains", 10 + c, x.clock(c, 2));
            DUE.is("one behind the last", -1, x.clock(c + 1, 0));
        }
        fault(text + "c0,100,10;", 70);
        fault(text + "w0,1;c0,100,10;", 75);
        fault(text + "w6,0;l0,6,0;l0,0,6;", -4);
        TaughtClocks x = new TaughtClocks();
        Due.write(x, text + "c0,100,10;");
        DUE.is("lay of eight", -2, x.lay());
        DUE.is("five clocks stay", 5, x.count(0));
    }

    /** "a WALL between CLOCKS A and B (unlike, both told ahead". */
    private static void walls() {
        for (int a = 0; a <= 8; a++) {
            for (int b = 0; b <= 8; b++) {
                fault("c0,1,1;".repeat(7) + "w" + a + "," + b + ";", a < 7 && b < 7 && a != b ? -4 : 49);
                fault(TWO + "w" + a + "," + b + ";", a < 2 && b < 2 && a != b ? -4 : 20);
            }
        }
        fault("w0,1;" + TWO, 0);
        fault(CLOCK + "w0,1;" + CLOCK, 10);
        fault(CLOCK + "w1,0;" + CLOCK, 10);
        fault(CLOCK + "w0,0;", 10);
        fault(TWO + "w0,999;", 20);
        fault(TWO + "w32,0;", 20);
        StringBuilder all = new StringBuilder("c0,1,1;".repeat(7));
        for (int a = 0; a < 7; a++) {
            for (int b = a + 1; b < 7; b++) {
                all.append("w").append(a).append(",").append(b).append(";");
            }
        }
        TaughtClocks x = Due.laid(all.toString());
        DUE.is("all walls of seven", 21, x.count(1));
        DUE.is("walls of 0", 6, x.clock(0, 3));
        DUE.is("walls of 6", 6, x.clock(6, 3));
    }

    /** "no matter if told once more": either way round, it is one wall, and works once a day. */
    private static void wallToldOnceMore() {
        TaughtClocks once = Due.laid("c0,100,10;c0,110,10;c0,120,10;w0,1;");
        TaughtClocks more = Due.laid("c0,100,10;c0,110,10;c0,120,10;w0,1;w0,1;w1,0;w01,00;");
        DUE.is("walls told once more", 1, more.count(1));
        DUE.is("walls of 0 told once more", 1, more.clock(0, 3));
        DUE.is("walls of 1 told once more", 1, more.clock(1, 3));
        DUE.is("walls of 2", 0, more.clock(2, 3));
        once.pass(3);
        more.pass(3);
        DUE.wrongsAre("a wall", "3,7,20", once);
        DUE.wrongsAre("a wall told once more", "3,7,20", more);
    }

    /** "on day D (0 to 13)". */
    private static void lessonDays() {
        for (int day = 0; day <= 999; day++) {
            fault(TWO + "l" + day + ",0,1;", day <= 13 ? -4 : 20);
        }
    }

    /** "A teaches B (unlike, both told ahead)". */
    private static void lessonsOfTwo() {
        for (int a = 0; a <= 8; a++) {
            for (int b = 0; b <= 8; b++) {
                fault("c0,1,1;".repeat(7) + "l0," + a + "," + b + ";", a < 7 && b < 7 && a != b ? -4 : 49);
                fault(TWO + "l13," + a + "," + b + ";", a < 2 && b < 2 && a != b ? -4 : 20);
            }
        }
        fault("l0,0,1;" + TWO, 0);
        fault(CLOCK + "l0,0,1;" + CLOCK, 10);
        fault(CLOCK + "l0,1,0;" + CLOCK, 10);
        fault(CLOCK + "l0,0,0;", 10);
        fault(TWO + "l0,999,0;", 20);
        // A blind one can be told as a pupil; it is only not taught.
        TaughtClocks x = Due.laid("c0,107,10;c3,150,10;l0,0,1;");
        DUE.is("a lesson told for a blind one", 1, x.count(2));
        x.pass(1);
        DUE.wrongsAre("a lesson told for a blind one", "7,50", x);
    }

    /** "9 at most": the same one counts each time it is told. */
    private static void nineLessons() {
        String nine = TWO + "l0,0,1;".repeat(9);
        for (int many = 0; many <= 9; many++) {
            DUE.is("lessons told", many, Due.laid(TWO + "l0,0,1;".repeat(many)).count(2));
        }
        fault(nine, -4);
        fault(nine + "l0,0,1;", 20 + 63);
        fault(nine + "l13,1,0;w0,1;", 20 + 63);
        fault(nine + "w0,1;c0,100,10;", -4);
        TaughtClocks x = new TaughtClocks();
        Due.write(x, nine + "l0,0,1;");
        DUE.is("lay of ten lessons", -2, x.lay());
        // The ninth one is held as the first is.
        x = Due.laid("c0,107,10;c0,150,10;c0,160,10;" + "l0,0,1;".repeat(8) + "l0,0,2;");
        x.pass(1);
        DUE.wrongsAre("the ninth lesson", "7,7,7", x);
    }

    /** "the place of the first letter of the first ITEM that is not so". */
    private static void firstFaultOfSeveral() {
        fault("x" + CLOCK, 0);
        fault(CLOCK + "c5,100,10;c9,100,10;", 10);
        fault(CLOCK + "c0,100,10;c0,100,21;w0,0;x", 20);
        fault(TWO + "w0,1;l14,0,1;w0,2;", 25);
        fault(TWO + "w0,2;l0,0,1;", 20);
        fault(TWO + "c0,1", 20);
        fault(TWO + "c", 20);
        // A fault is told as soon as its item is there, and goes with the text.
        TaughtClocks x = new TaughtClocks();
        Due.write(x, CLOCK + "w0,1");
        DUE.is("fault of half an item", 10, x.fault());
        x.write(';');
        DUE.is("fault of all of it", 10, x.fault());
        x.wipe();
        DUE.is("fault of nothing", -4, x.fault());
    }

    /** Each letter of a right text is left out, put twice, or is another one: as PlainHouse reads it. */
    private static void everyTextNearARightOne() {
        String right = "c4,200,20;c0,0,3;w0,1;l13,1,0;";
        fault(right, -4);
        for (int i = 0; i < right.length(); i++) {
            String ahead = right.substring(0, i);
            String behind = right.substring(i + 1);
            asPlainHouse(ahead + behind);
            asPlainHouse(right.substring(0, i));
            for (char letter = ' '; letter <= '~'; letter++) {
                asPlainHouse(ahead + letter + behind);
                asPlainHouse(ahead + letter + right.substring(i));
            }
        }
    }

    private static void asPlainHouse(String text) {
        PlainHouse due = new PlainHouse();
        TaughtClocks x = new TaughtClocks();
        for (char letter : text.toCharArray()) {
            due.write(letter);
            x.write(letter);
        }
        DUE.is("fault of " + text, due.fault(), x.fault());
        DUE.is("lay of " + text, due.lay(), x.lay());
    }

    /** "at first c0,100,10;.."; "A new object: As told; THE TEXT is empty". */
    private static void newObject() {
        TaughtClocks x = new TaughtClocks();
        TaughtClocks told = Due.laid(FIRST);
        told.wipe();
        DUE.is("a new object", Sight.now(told), Sight.now(x));
        int[] kinds = {0, 1, 2, 3, 4};
        int[] walls = {1, 2, 1, 1, 1};
        for (int c = 0; c < 5; c++) {
            DUE.is("kind of " + c, kinds[c], x.clock(c, 0));
            DUE.is("walls of " + c, walls[c], x.clock(c, 3));
        }
        DUE.is("gain of 3", 9, x.clock(3, 2));
        DUE.is("gain of 4", 12, x.clock(4, 2));
        // Each lesson that can be seen: of day 0, of day 1, and of day 6 for the one of Sundays.
        x.pass(1);
        DUE.wrongsAre("first house, day 1", "1,5,-4,28,-17", x);
        x.pass(1);
        told.pass(1);
        told.pass(1);
        DUE.wrongsAre("first house, day 2", "2,6,5,26,-14", x);
        x.pass(18);
        told.pass(18);
        DUE.is("the first house told", Sight.now(told), Sight.now(x));
    }

    /** "LAID: how many CLOCKS"; of one, of seven. */
    private static void layOfOne() {
        for (int many = 1; many <= 7; many++) {
            TaughtClocks x = new TaughtClocks();
            Due.write(x, "c0,101,10;".repeat(many));
            DUE.is("lay of " + many, many, x.lay());
            DUE.is("lay again of " + many, many, x.lay());
            DUE.is("the text stays", 10 * many, x.count(8));
        }
    }

    /** "NO": nothing changes by a text with a fault, wherever it is. */
    private static void layOfFaults() {
        for (String text : new String[] {"", "c", "w0,1;", "c5,1,1;", CLOCK + "x", "c3,1,1;".repeat(8), TWO + "w0,2;"}) {
            TaughtClocks x = new TaughtClocks();
            x.pass(2);
            x.keep();
            x.hear(0, 600);
            Due.write(x, text);
            String before = Sight.now(x);
            DUE.is("lay of " + text, -2, x.lay());
            DUE.is("all behind lay of " + text, before, Sight.now(x));
            DUE.is("undo behind lay of " + text, 0, x.undo());
            DUE.is("back behind lay of " + text, 0, x.back());
        }
    }

    /** "day 0, nothing HEARD, UNDONE, KEPT; THE TEXT stays": all of them at their most. */
    private static void layBeginsAnew() {
        TaughtClocks x = new TaughtClocks();
        for (int i = 0; i < 9; i++) {
            x.pass(20);
            x.hear(0, 600);
            x.keep();
        }
        Due.write(x, "c0,117,10;c4,150,10;l0,0,1;");
        DUE.is("lay", 2, x.lay());
        int[] counts = {2, 0, 1, 0, 0, 0, 0, 0, 27};
        for (int what = 0; what < counts.length; what++) {
            DUE.is("count(" + what + ") behind lay", counts[what], x.count(what));
        }
        DUE.is("undo behind lay", -2, x.undo());
        DUE.is("back behind lay", -2, x.back());
        DUE.is("taught behind lay", 1, x.taught(0));
        DUE.is("a Sunday is day 6 of the new days", -2, x.teach(0, 1));
        x.pass(6);
        DUE.is("it is taught then", 617, x.teach(0, 1));
        DUE.is("keep behind lay", 1, x.keep());
        // The one laid last counts, and none of the first house's.
        DUE.is("no third clock", -1, x.clock(2, 0));
    }

    /** "KIND (what = 0), .. WALLS (3). BAD". */
    private static void clockNumbers() {
        TaughtClocks x = Due.laid("c2,0,20;c4,200,0;w0,1;");
        int[][] due = {{2, 500, 20, 1}, {4, 700, 0, 1}};
        for (int c = -3; c <= 8; c++) {
            for (int what = -3; what <= 8; what++) {
                boolean told = c >= 0 && c < 2 && what >= 0 && what < 4;
                DUE.is("clock(" + c + ", " + what + ")", told ? due[c][what] : -1, x.clock(c, what));
            }
        }
    }

    /** "1 if there is a WALL between two CLOCKS, 0. BAD (alike, too)". */
    private static void wallNumbers() {
        TaughtClocks x = Due.laid(CLOCK.repeat(3) + "w1,2;");
        for (int a = -2; a <= 8; a++) {
            for (int b = -2; b <= 8; b++) {
                boolean told = a >= 0 && a < 3 && b >= 0 && b < 3 && a != b;
                DUE.is("wall(" + a + ", " + b + ")", told ? a + b == 3 ? 1 : 0 : -1, x.wall(a, b));
            }
        }
        DUE.is("wall(0, 32)", -1, x.wall(0, 32));
        DUE.is("wall(1, 34)", -1, x.wall(1, 34));
    }

    /** "the middle one .. (of an even number the lower of the two)", of one to seven. */
    private static void noonOfAsMany() {
        String[] items = {"c0,150,10;", "c0,60,10;", "c0,130,10;", "c0,80,10;", "c0,120,10;", "c0,90,10;", "c0,200,10;"};
        int[] noons = {50, -40, 30, -20, 20, -10, 20};
        StringBuilder text = new StringBuilder();
        for (int many = 0; many < items.length; many++) {
            text.append(items[many]);
            TaughtClocks x = Due.laid(text.toString());
            DUE.is("noon of " + (many + 1), 600 + noons[many], x.noon());
            DUE.is("noon of " + (many + 1) + " behind 0 days", 600 + noons[many], x.behind(0, -1));
        }
        DUE.is("noon of alike ones, even", 570, Due.laid("c0,70,10;c0,70,10;c0,90,10;c0,70,10;").noon());
        DUE.is("noon of alike ones, two by two", 570, Due.laid("c0,90,10;c0,70,10;c0,90,10;c0,70,10;").noon());
        DUE.is("noon of alike ones, odd", 590, Due.laid("c0,90,10;c0,70,10;c0,90,10;").noon());
        DUE.is("noon at the least", 500, Due.laid("c0,0,10;c0,200,10;").noon());
    }

    /** "An object is used for at most 512 calls": the last of them is as good as the first. */
    private static void allCallsOfAnObject() {
        TaughtClocks x = new TaughtClocks();
        for (int i = 1; i <= 511; i++) {
            DUE.is("pass of call " + i, 20 * i, x.pass(20));
        }
        DUE.is("the 512th call", 10220, x.count(3));
    }
}

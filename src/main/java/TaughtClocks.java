/** A house of foundling clocks that teach each other the time. README.md tells how to use it. */
public final class TaughtClocks {
    public static final int BAD = -1, NO = -2, FULL = -3, NONE = -4;

    private static final String FIRST_TEXT =
        "c0,100,10;c1,112,11;c2,95,10;c3,130,9;c4,80,12;w0,1;w1,2;w3,4;l0,0,1;l1,1,2;l2,2,4;l6,0,4;l9,4,3;";

    private static final int SLOW = 1, CUCKOO = 2, BLIND = 3, SUNDAY = 4;

    private static final int MOST_LETTERS = 200;
    private static final int MOST_NUMBERS = 3;
    private static final int MOST_FIGURES = 3;
    private static final int MOST_CLOCKS = 7;
    private static final int MOST_LESSONS = 9;
    private static final int MOST_HEARD = 6;
    private static final int MOST_UNDONE = 8;
    private static final int MOST_KEPT = 2;
    private static final int MOST_OILINGS = 10;
    private static final int MOST_DRAUGHTS = 6;

    /** How wrong a clock can be; answers are told this much higher, so that none is below 0. */
    private static final int MOST_WRONG = 600;
    /** What is told of a gain, in a text and in answers, is this much higher, too. */
    private static final int MOST_GAIN = 10;
    /** A text tells how wrong a clock is, and a setter what it set, this much higher. */
    private static final int MOST_TOLD_WRONG = 100;

    private static final int DAYS_OF_LESSONS = 14;
    private static final int DAYS_OF_WEEK = 7;
    private static final int SUNDAY_OF_WEEK = 6;

    /** The orders of seven clocks of which the first is given: more ways than twos of them have. */
    private static final int MOST_WAYS = 720;

    private final Text text = new Text();
    /** What a text says is read in here first, so that a fault leaves the house as it is. */
    private final House draft = new House();
    private final House house = new House();
    private final Standing now = new Standing(house);
    /** Whatever is only asked about is tried out here; made once, as calls make nothing. */
    private final Standing trial = new Standing(house);
    private final Shelf undoable = new Shelf(house, MOST_UNDONE);
    private final Shelf kept = new Shelf(house, MOST_KEPT);
    private final Rumours rumours = new Rumours();
    private final Cure cure = new Cure();
    private final BestRing bestRing = new BestRing();
    private final BestTwos bestTwos = new BestTwos();

    public TaughtClocks() {
        for (int i = 0; i < FIRST_TEXT.length(); i++) {
            text.append(FIRST_TEXT.charAt(i));
        }
        house.readFrom(text);
        now.begin();
        text.length = 0;
    }

    // ---- houses

    public int write(int letter) {
        if (letter < ' ' || letter > '~') {
            return BAD;
        }
        if (text.length >= MOST_LETTERS) {
            return FULL;
        }
        text.append(letter);
        return text.length;
    }

    public int wipe() {
        int before = text.length;
        text.length = 0;
        return before;
    }

    public int fault() {
        return draft.readFrom(text);
    }

    public int lay() {
        if (draft.readFrom(text) != NONE || draft.clocks == 0) {
            return NO;
        }
        house.readFrom(text);
        now.begin();
        rumours.heard = 0;
        undoable.held = 0;
        kept.held = 0;
        return house.clocks;
    }

    public int clock(int c, int what) {
        if (!house.hasClock(c)) {
            return BAD;
        }
        switch (what) {
            case 0: return house.kindOf(c);
            case 1: return now.wrongOf(c) + MOST_WRONG;
            case 2: return now.gainOf(c) + MOST_GAIN;
            case 3: return house.wallsOf(c);
            default: return BAD;
        }
    }

    public int wall(int a, int b) {
        if (!house.hasBoth(a, b)) {
            return BAD;
        }
        return house.hasWall(a, b) ? 1 : 0;
    }

    public int noon() {
        return now.middle() + MOST_WRONG;
    }

    // ---- days

    public int pass(int n) {
        if (n < 1 || n > 20) {
            return BAD;
        }
        undoable.add(now);
        now.passDays(n);
        return now.day;
    }

    public int teach(int a, int b) {
        if (!house.hasBoth(a, b)) {
            return BAD;
        }
        if (!now.canLearn(b)) {
            return NO;
        }
        undoable.add(now);
        now.learn(a, b);
        return now.wrongOf(b) + MOST_WRONG;
    }

    public int set(int c) {
        if (!house.hasClock(c)) {
            return BAD;
        }
        int before = now.wrongOf(c);
        undoable.add(now);
        now.makeWrong(c, 0);
        return before + MOST_WRONG;
    }

    public int oil(int c) {
        if (!house.hasClock(c)) {
            return BAD;
        }
        if (now.gainOf(c) == 0) {
            return NO;
        }
        undoable.add(now);
        now.oilOnce(c);
        return now.gainOf(c) + MOST_GAIN;
    }

    public int undo() {
        if (undoable.held == 0) {
            return NO;
        }
        undoable.takeLatest(now);
        return undoable.held;
    }

    // ---- what comes

    public int behind(int n, int c) {
        if (n < 0 || n > 60 || (c != -1 && !house.hasClock(c))) {
            return BAD;
        }
        trial.takeFrom(now);
        trial.passDays(n);
        return (c == -1 ? trial.middle() : trial.wrongOf(c)) + MOST_WRONG;
    }

    public int right(int w, int k) {
        if (w < 0 || w > 100 || k < 0 || k > 2) {
            return BAD;
        }
        trial.takeFrom(now);
        cure.seek(trial, w);
        if (cure.lessons == NONE || k > cure.lessons) {
            return NONE;
        }
        if (k == 0) {
            return cure.lessons;
        }
        return k == 1 ? cure.first : cure.second;
    }

    public int ring(int k) {
        if (k < 0 || k > MOST_CLOCKS) {
            return BAD;
        }
        if (k > house.clocks) {
            return NONE;
        }
        bestRing.seek(now, trial);
        return k == 0 ? bestRing.best.sum : bestRing.comesAt(k - 1);
    }

    public int dull() {
        int bits = 0;
        for (int c = 0; c < house.clocks; c++) {
            if (now.isDull(c)) {
                bits |= 1 << c;
            }
        }
        return bits;
    }

    public int pairs(int c) {
        if (c != -1 && !house.hasClock(c)) {
            return BAD;
        }
        bestTwos.seek(now);
        return c == -1 ? bestTwos.best.sum : bestTwos.mateOf(c);
    }

    public int oils(int c, int n, int w) {
        if (!house.hasClock(c) || n < 1 || n > 30 || w < 0 || w > 100) {
            return BAD;
        }
        for (int times = 0; times <= MOST_OILINGS; times++) {
            trial.takeFrom(now);
            for (int i = 0; i < times; i++) {
                trial.oilOnce(c);
            }
            trial.passDays(n);
            if (Math.abs(trial.wrongOf(c)) <= w) {
                return times;
            }
        }
        return NONE;
    }

    // ---- what was heard

    public int hear(int c, int e) {
        if (!house.hasClock(c) || e < 0 || e > 2 * MOST_WRONG) {
            return BAD;
        }
        if (rumours.heard >= MOST_HEARD) {
            return FULL;
        }
        rumours.add(c, e - MOST_WRONG);
        return rumours.heard;
    }

    public int forget() {
        int before = rumours.heard;
        rumours.heard = 0;
        return before;
    }

    public int taught(int what) {
        if (what != 0 && what != 1) {
            return BAD;
        }
        int many = 0;
        int first = NONE;
        trial.takeFrom(now);
        for (int a = 0; a < house.clocks; a++) {
            for (int b = 0; b < house.clocks; b++) {
                if (a != b && now.canLearn(b) && isHeardWhenTaught(a, b)) {
                    first = many == 0 ? lessonNumber(a, b) : first;
                    many++;
                }
            }
        }
        return what == 0 ? many : first;
    }

    public int setter(int what) {
        if (what != 0 && what != 1) {
            return BAD;
        }
        int many = 0;
        int least = NONE;
        trial.takeFrom(now);
        for (int minutes = -MOST_TOLD_WRONG; minutes <= MOST_TOLD_WRONG; minutes++) {
            trial.makeAllSeeingWrong(minutes);
            if (rumours.fit(trial)) {
                least = many == 0 ? minutes + MOST_TOLD_WRONG : least;
                many++;
            }
        }
        return what == 0 ? many : least;
    }

    public int child(int c) {
        if (!house.hasClock(c)) {
            return BAD;
        }
        int nearest = NONE;
        int least = 0;
        for (int other = 0; other < house.clocks; other++) {
            int apart = now.minutesApart(c, other);
            if (other != c && (nearest == NONE || apart < least)) {
                nearest = other;
                least = apart;
            }
        }
        return nearest;
    }

    // ---- draughts, years

    public int draughts(int c, int n, int x, int part) {
        if (!house.hasClock(c) || n < 0 || n > MOST_DRAUGHTS || x < 0 || x > 10 || part < 0 || part > 1) {
            return BAD;
        }
        int above = 0;
        for (int draughtyDays = 0; draughtyDays < 1 << n; draughtyDays++) {
            trial.takeFrom(now);
            int weight = 1;
            for (int i = 0; i < n; i++) {
                boolean draughty = (draughtyDays >> i & 1) == 1;
                weight *= draughty ? x : 10 - x;
                trial.passDay(!draughty);
            }
            above += trial.wrongOf(c) == 0 ? weight : 0;
        }
        return partInLowestTerms(above, n, part);
    }

    public int year(int z, int n, int what) {
        int clocks = house.clocks;
        if (z < 0 || z > 9999 || n < 1 || n > 60 || what < 0 || what > 1 || clocks < 1) {
            return BAD;
        }
        trial.takeFrom(now);
        for (int k = 0; k < n; k++) {
            int drawn = draw(z, k);
            int teacher = drawn % clocks;
            int pupil = drawn / 8 % clocks;
            if (teacher != pupil && trial.canLearn(pupil)) {
                trial.learn(teacher, pupil);
            }
            trial.passDay(true);
        }
        return what == 0 ? trial.middle() + MOST_WRONG : trial.rightOnes();
    }

    public int keep() {
        if (kept.held >= MOST_KEPT) {
            return FULL;
        }
        kept.add(now);
        return kept.held;
    }

    public int back() {
        if (kept.held == 0) {
            return NO;
        }
        kept.takeLatest(now);
        undoable.held = 0;
        return kept.held;
    }

    public int count(int what) {
        switch (what) {
            case 0: return house.clocks;
            case 1: return house.walls;
            case 2: return house.lessons;
            case 3: return now.day;
            case 4: return now.rightOnes();
            case 5: return rumours.heard;
            case 6: return undoable.held;
            case 7: return kept.held;
            case 8: return text.length;
            default: return BAD;
        }
    }

    private boolean isHeardWhenTaught(int teacher, int pupil) {
        int before = trial.wrongOf(pupil);
        trial.learn(teacher, pupil);
        boolean fits = rumours.fit(trial);
        trial.makeWrong(pupil, before);
        return fits;
    }

    /** Above over ten to the n: nothing but 2 and 5 can be in both, each n times at most. */
    private static int partInLowestTerms(int above, int n, int part) {
        int below = 1;
        for (int i = 0; i < n; i++) {
            below *= 10;
        }
        for (int i = 0; i < n; i++) {
            if (above % 2 == 0 && below % 2 == 0) {
                above /= 2;
                below /= 2;
            }
            if (above % 5 == 0 && below % 5 == 0) {
                above /= 5;
                below /= 5;
            }
        }
        return part == 0 ? above : below;
    }

    /** In longs, as x times x is beyond an int. */
    private static int draw(int z, int k) {
        long x = 7919L * z + 6151L * k + 1L;
        return (int) (x * x % 65521L / 8L);
    }

    private static int lessonNumber(int teacher, int pupil) {
        return 10 * teacher + pupil;
    }

    /** Rows are read and written through these two, so that no place is used untested. */
    private static int at(int[] row, int place) {
        return place >= 0 && place < row.length ? row[place] : 0;
    }

    private static void put(int[] row, int place, int value) {
        if (place >= 0 && place < row.length) {
            row[place] = value;
        }
    }

    /** The letters that were written. */
    private static final class Text {
        private final int[] letters = new int[MOST_LETTERS];
        private int length = 0;

        void append(int letter) {
            if (length < MOST_LETTERS) {
                put(letters, length, letter);
                length++;
            }
        }

        int letterAt(int place) {
            return at(letters, place);
        }
    }

    /** What a text tells of a house: what stays as it is however many days go by. */
    private static final class House {
        private final int[] kinds = new int[MOST_CLOCKS];
        private final int[] firstWrong = new int[MOST_CLOCKS];
        private final int[] firstGain = new int[MOST_CLOCKS];
        /** Of each clock a bit for every clock behind a wall. */
        private final int[] wallBits = new int[MOST_CLOCKS];
        private final int[] lessonDays = new int[MOST_LESSONS];
        private final int[] teachers = new int[MOST_LESSONS];
        private final int[] pupils = new int[MOST_LESSONS];
        private int clocks = 0;
        private int walls = 0;
        private int lessons = 0;
        /** The numbers of the item that is being read. */
        private final int[] numbers = new int[MOST_NUMBERS];
        private int told = 0;

        /** The fault's place; the house is half read behind a fault. */
        int readFrom(Text text) {
            clocks = 0;
            walls = 0;
            lessons = 0;
            int place = 0;
            for (int item = 0; item < MOST_LETTERS && place < text.length; item++) {
                int next = readNumbers(text, place + 1);
                if (next == NONE || !takeItem(text.letterAt(place))) {
                    return place;
                }
                place = next;
            }
            return NONE;
        }

        /** The place behind the ; that ends the numbers. */
        private int readNumbers(Text text, int start) {
            told = 0;
            int figures = 0;
            int number = 0;
            for (int place = start; place < text.length; place++) {
                int letter = text.letterAt(place);
                if (letter >= '0' && letter <= '9') {
                    number = 10 * number + letter - '0';
                    figures++;
                } else if (letter == ',' || letter == ';') {
                    if (figures < 1 || told >= MOST_NUMBERS) {
                        return NONE;
                    }
                    put(numbers, told, number);
                    told++;
                    figures = 0;
                    number = 0;
                } else {
                    return NONE;
                }
                if (figures > MOST_FIGURES) {
                    return NONE;
                }
                if (letter == ';') {
                    return place + 1;
                }
            }
            return NONE;
        }

        private boolean takeItem(int letter) {
            int a = at(numbers, 0);
            int b = at(numbers, 1);
            int c = at(numbers, 2);
            switch (letter) {
                case 'c': return told == 3 && takeClock(a, b, c);
                case 'w': return told == 2 && takeWall(a, b);
                case 'l': return told == 3 && takeLesson(a, b, c);
                default: return false;
            }
        }

        private boolean takeClock(int kind, int wrong, int gain) {
            if (clocks >= MOST_CLOCKS || kind > SUNDAY || wrong > 2 * MOST_TOLD_WRONG || gain > 2 * MOST_GAIN) {
                return false;
            }
            put(kinds, clocks, kind);
            put(firstWrong, clocks, wrong - MOST_TOLD_WRONG);
            put(firstGain, clocks, gain - MOST_GAIN);
            put(wallBits, clocks, 0);
            clocks++;
            return true;
        }

        private boolean takeWall(int a, int b) {
            if (!hasBoth(a, b)) {
                return false;
            }
            if (!hasWall(a, b)) {
                put(wallBits, a, at(wallBits, a) | 1 << b);
                put(wallBits, b, at(wallBits, b) | 1 << a);
                walls++;
            }
            return true;
        }

        private boolean takeLesson(int day, int teacher, int pupil) {
            if (lessons >= MOST_LESSONS || day >= DAYS_OF_LESSONS || !hasBoth(teacher, pupil)) {
                return false;
            }
            put(lessonDays, lessons, day);
            put(teachers, lessons, teacher);
            put(pupils, lessons, pupil);
            lessons++;
            return true;
        }

        boolean hasClock(int c) {
            return c >= 0 && c < clocks;
        }

        boolean hasBoth(int a, int b) {
            return hasClock(a) && hasClock(b) && a != b;
        }

        boolean hasWall(int a, int b) {
            return (at(wallBits, a) >> b & 1) == 1;
        }

        int wallsOf(int c) {
            return Integer.bitCount(at(wallBits, c));
        }

        int kindOf(int c) {
            return at(kinds, c);
        }
    }

    /** How the clocks of a house stand on some day. */
    private static final class Standing {
        private final House house;
        private final int[] wrong = new int[MOST_CLOCKS];
        private final int[] gain = new int[MOST_CLOCKS];
        private int day = 0;

        Standing(House house) {
            this.house = house;
        }

        void begin() {
            day = 0;
            for (int c = 0; c < MOST_CLOCKS; c++) {
                put(wrong, c, at(house.firstWrong, c));
                put(gain, c, at(house.firstGain, c));
            }
        }

        void takeFrom(Standing other) {
            day = other.day;
            for (int c = 0; c < MOST_CLOCKS; c++) {
                put(wrong, c, at(other.wrong, c));
                put(gain, c, at(other.gain, c));
            }
        }

        int wrongOf(int c) {
            return at(wrong, c);
        }

        int gainOf(int c) {
            return at(gain, c);
        }

        void makeWrong(int c, int minutes) {
            put(wrong, c, Math.max(-MOST_WRONG, Math.min(MOST_WRONG, minutes)));
        }

        void makeAllSeeingWrong(int minutes) {
            for (int c = 0; c < house.clocks; c++) {
                if (house.kindOf(c) != BLIND) {
                    makeWrong(c, minutes);
                }
            }
        }

        void oilOnce(int c) {
            int gains = gainOf(c);
            if (gains != 0) {
                put(gain, c, gains > 0 ? gains - 1 : gains + 1);
            }
        }

        boolean canLearn(int pupil) {
            int kind = at(house.kinds, pupil);
            return kind != BLIND && (kind != SUNDAY || day % DAYS_OF_WEEK == SUNDAY_OF_WEEK);
        }

        /** One that can not be taught stays as it is. */
        void learn(int teacher, int pupil) {
            if (canLearn(pupil)) {
                makeWrong(pupil, wrongWhenTaught(teacher, pupil));
            }
        }

        private int wrongWhenTaught(int teacher, int pupil) {
            int shown = at(wrong, teacher);
            int own = at(wrong, pupil);
            switch (at(house.kinds, pupil)) {
                case SLOW: return own + (shown - own) / 2;
                case CUCKOO: return Math.min(MOST_WRONG, shown + 1);
                default: return shown;
            }
        }

        void passDays(int n) {
            for (int i = 0; i < n; i++) {
                passDay(true);
            }
        }

        void passDay(boolean wallsCarry) {
            learnAllTold();
            if (wallsCarry) {
                hearThroughWalls();
            }
            for (int c = 0; c < house.clocks; c++) {
                makeWrong(c, wrongOf(c) + gainOf(c));
            }
            day++;
        }

        private void learnAllTold() {
            int today = day % DAYS_OF_LESSONS;
            for (int i = 0; i < house.lessons; i++) {
                if (at(house.lessonDays, i) == today) {
                    learn(at(house.teachers, i), at(house.pupils, i));
                }
            }
        }

        private void hearThroughWalls() {
            for (int a = 0; a < house.clocks; a++) {
                for (int b = a + 1; b < house.clocks; b++) {
                    if (house.hasWall(a, b)) {
                        drawNearer(a, b);
                    }
                }
            }
        }

        private void drawNearer(int a, int b) {
            int apart = minutesApart(a, b);
            int ahead = wrongOf(a) > wrongOf(b) ? a : b;
            int other = ahead == a ? b : a;
            if (apart > 0) {
                makeWrong(ahead, wrongOf(ahead) - 1);
            }
            if (apart > 1) {
                makeWrong(other, wrongOf(other) + 1);
            }
        }

        int minutesApart(int a, int b) {
            return Math.abs(at(wrong, a) - at(wrong, b));
        }

        /** Noon: the one that as many are below and above as its place in the order asks. */
        int middle() {
            int place = (house.clocks - 1) / 2;
            for (int c = 0; c < house.clocks; c++) {
                int lower = 0;
                int alike = 0;
                for (int other = 0; other < house.clocks; other++) {
                    lower += wrongOf(other) < wrongOf(c) ? 1 : 0;
                    alike += wrongOf(other) == wrongOf(c) ? 1 : 0;
                }
                if (lower <= place && place < lower + alike) {
                    return wrongOf(c);
                }
            }
            return 0;
        }

        int rightOnes() {
            int many = 0;
            for (int c = 0; c < house.clocks; c++) {
                many += wrongOf(c) == 0 ? 1 : 0;
            }
            return many;
        }

        int wrongTogether() {
            int sum = 0;
            for (int c = 0; c < house.clocks; c++) {
                sum += Math.abs(wrongOf(c));
            }
            return sum;
        }

        boolean isWithin(int minutes) {
            for (int c = 0; c < house.clocks; c++) {
                if (Math.abs(wrongOf(c)) > minutes) {
                    return false;
                }
            }
            return true;
        }

        boolean isDull(int c) {
            int own = Math.abs(wrongOf(c));
            for (int a = 0; a < house.clocks; a++) {
                if (a != c && canLearn(c) && Math.abs(wrongWhenTaught(a, c)) < own) {
                    return false;
                }
            }
            return own != 0;
        }
    }

    /** Standings put by, the latest on top. */
    private static final class Shelf {
        private final Standing[] places;
        private int held = 0;

        Shelf(House house, int size) {
            places = new Standing[Math.max(0, size)];
            for (int i = 0; i < places.length; i++) {
                places[i] = new Standing(house);
            }
        }

        /** A full shelf loses the oldest. */
        void add(Standing standing) {
            if (held >= places.length) {
                dropOldest();
            }
            if (held >= 0 && held < places.length && places[held] != null) {
                places[held].takeFrom(standing);
                held++;
            }
        }

        private void dropOldest() {
            for (int i = 0; i + 1 < places.length; i++) {
                if (places[i] != null && places[i + 1] != null) {
                    places[i].takeFrom(places[i + 1]);
                }
            }
            held = places.length - 1;
        }

        void takeLatest(Standing into) {
            int top = held - 1;
            if (top >= 0 && top < places.length && places[top] != null) {
                into.takeFrom(places[top]);
                held = top;
            }
        }
    }

    /** All that is heard of how wrong clocks are. */
    private static final class Rumours {
        private final int[] clocks = new int[MOST_HEARD];
        private final int[] minutes = new int[MOST_HEARD];
        private int heard = 0;

        void add(int c, int wrong) {
            if (heard < MOST_HEARD) {
                put(clocks, heard, c);
                put(minutes, heard, wrong);
                heard++;
            }
        }

        boolean fit(Standing standing) {
            for (int i = 0; i < heard; i++) {
                if (standing.wrongOf(at(clocks, i)) != at(minutes, i)) {
                    return false;
                }
            }
            return true;
        }
    }

    /** The fewest lessons by which all are right enough. */
    private static final class Cure {
        private int lessons = NONE;
        private int first = NONE;
        private int second = NONE;

        /** The standing is changed and put back again on the way. */
        void seek(Standing standing, int minutes) {
            lessons = NONE;
            first = NONE;
            second = NONE;
            if (standing.isWithin(minutes)) {
                lessons = 0;
                return;
            }
            first = oneLesson(standing, minutes);
            if (first != NONE) {
                lessons = 1;
                return;
            }
            seekTwo(standing, minutes);
        }

        private void seekTwo(Standing standing, int minutes) {
            int clocks = standing.house.clocks;
            for (int a = 0; a < clocks; a++) {
                for (int b = 0; b < clocks; b++) {
                    if (a != b && second == NONE) {
                        int before = standing.wrongOf(b);
                        standing.learn(a, b);
                        second = oneLesson(standing, minutes);
                        standing.makeWrong(b, before);
                        first = lessonNumber(a, b);
                    }
                }
            }
            lessons = second == NONE ? NONE : 2;
        }

        /** The first lesson that is enough alone. */
        private static int oneLesson(Standing standing, int minutes) {
            int clocks = standing.house.clocks;
            for (int a = 0; a < clocks; a++) {
                for (int b = 0; b < clocks; b++) {
                    int before = standing.wrongOf(b);
                    if (a != b) {
                        standing.learn(a, b);
                    }
                    boolean enough = standing.isWithin(minutes);
                    standing.makeWrong(b, before);
                    if (a != b && enough) {
                        return lessonNumber(a, b);
                    }
                }
            }
            return NONE;
        }
    }

    /** The least of the sums offered, and the row that first came to it. */
    private static final class Least {
        private final int[] row = new int[MOST_CLOCKS];
        private int sum = NONE;

        void clear() {
            sum = NONE;
        }

        void offer(int offeredSum, int[] offeredRow) {
            if (sum == NONE || offeredSum < sum) {
                sum = offeredSum;
                for (int i = 0; i < MOST_CLOCKS; i++) {
                    put(row, i, at(offeredRow, i));
                }
            }
        }
    }

    /** Rows of choices, each below a bound of its own, one row behind the other in order. */
    private static final class Choices {
        private final int[] chosen = new int[MOST_CLOCKS];
        private final int[] bounds = new int[MOST_CLOCKS];
        private int many = 0;

        void clear() {
            many = 0;
        }

        void addBound(int bound) {
            put(chosen, many, 0);
            put(bounds, many, bound);
            many++;
        }

        int choice(int place) {
            return at(chosen, place);
        }

        /** Whether there was a next row. */
        boolean advance() {
            for (int i = many - 1; i >= 0; i--) {
                if (choice(i) + 1 < at(bounds, i)) {
                    put(chosen, i, choice(i) + 1);
                    return true;
                }
                put(chosen, i, 0);
            }
            return false;
        }

        /** The n-th (0 first) number whose bit is not taken. */
        static int free(int taken, int n) {
            int skipped = 0;
            for (int c = 0; c <= MOST_CLOCKS; c++) {
                if ((taken >> c & 1) == 0) {
                    if (skipped == n) {
                        return c;
                    }
                    skipped++;
                }
            }
            return NONE;
        }
    }

    /** The order in which one teaching the next leaves all least wrong together. */
    private static final class BestRing {
        private final Choices choices = new Choices();
        private final int[] order = new int[MOST_CLOCKS];
        private final Least best = new Least();

        void seek(Standing now, Standing trial) {
            int clocks = now.house.clocks;
            best.clear();
            choices.clear();
            for (int bound = clocks - 1; bound > 0; bound--) {
                choices.addBound(bound);
            }
            for (int way = 0; way < MOST_WAYS; way++) {
                orderAsChosen(clocks);
                trial.takeFrom(now);
                for (int i = 1; i < clocks; i++) {
                    trial.learn(at(order, i - 1), at(order, i));
                }
                best.offer(trial.wrongTogether(), order);
                if (!choices.advance()) {
                    return;
                }
            }
        }

        private void orderAsChosen(int clocks) {
            int taken = 1;
            put(order, 0, 0);
            for (int i = 1; i < clocks; i++) {
                int next = Choices.free(taken, choices.choice(i - 1));
                put(order, i, next);
                taken |= 1 << next;
            }
        }

        int comesAt(int place) {
            return at(best.row, place);
        }
    }

    /** The twos in which clocks are the fewest minutes apart. */
    private static final class BestTwos {
        private final Choices choices = new Choices();
        private final int[] mates = new int[MOST_CLOCKS];
        private final Least best = new Least();

        void seek(Standing now) {
            int clocks = now.house.clocks;
            // An odd one is left with a place behind all, so that being left comes last.
            int places = clocks + clocks % 2;
            best.clear();
            choices.clear();
            for (int bound = places - 1; bound > 0; bound -= 2) {
                choices.addBound(bound);
            }
            for (int way = 0; way < MOST_WAYS; way++) {
                best.offer(pairAsChosen(now, clocks, places), mates);
                if (!choices.advance()) {
                    return;
                }
            }
        }

        /** The sum of how far both of two are apart. */
        private int pairAsChosen(Standing now, int clocks, int places) {
            int taken = 0;
            int sum = 0;
            for (int two = 0; 2 * two < places; two++) {
                int low = Choices.free(taken, 0);
                taken |= 1 << low;
                int high = Choices.free(taken, choices.choice(two));
                taken |= 1 << high;
                if (high < clocks) {
                    put(mates, low, high);
                    put(mates, high, low);
                    sum += now.minutesApart(low, high);
                } else {
                    put(mates, low, NONE);
                }
            }
            return sum;
        }

        int mateOf(int c) {
            return at(best.row, c);
        }
    }
}

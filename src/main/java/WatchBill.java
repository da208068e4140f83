import java.util.Arrays;

/**
 * A training ship's hands in watches that go by a text, bell by bell, with orders, learners,
 * sick days, galley turns and breaches of rest. The document's promises tell each method.
 */
public final class WatchBill {
    public static final int NONE = -1;

    private static final int MOST_BYTES = 400;
    private static final int FEED_BYTES = 20;
    private static final int MOST_HANDS = 16;
    private static final int WATCHES = 3;
    private static final int SKILLS = 6;
    private static final int SKILL_SETS = 64;
    private static final int MOST_SPANS = 12;
    private static final int MOST_BILLS = 8;
    private static final int MOST_STATIONS = 12;
    private static final int MOST_ORDERS = 60;
    private static final int MOST_SICK_BELLS = 480;
    private static final int MOST_AHEAD = 1000;
    private static final int MOST_BELLS_AT_ONCE = 480;
    private static final int MOST_BELLS = 20000;
    private static final int MOST_REST_BELLS = 96;
    private static final int KEPT_BREACHES = 200;
    private static final int DAY_BELLS = 48;
    private static final int GALLEY_BELLS = 8;

    private static final int FIRST_STATION = 100;
    private static final int FIRST_LEARNER = 200;
    private static final int FIRST_LEARNED = 10;

    private static final int ON_WATCH = 1;
    private static final int FILLING = 2;
    private static final int AT_STATION = 4;
    private static final int IN_GALLEY = 8;

    private final Tape tape;
    private final TextReader reader;
    private final Crew crew;
    private final Fitting fitting;
    private final Orders orders;
    private final Rests rests;
    private Plan plan;
    private Plan spare;
    private int nextBell;
    private int latestFault;
    private int latestPlace;

    public WatchBill() {
        tape = new Tape();
        reader = new TextReader(tape);
        crew = new Crew();
        fitting = new Fitting();
        orders = new Orders();
        rests = new Rests();
        plan = new Plan();
        spare = new Plan();
        nextBell = 0;
        latestFault = NONE;
        latestPlace = NONE;
    }

    public int feed(int a, int b, int c, int d, int e) {
        if (tape.length + FEED_BYTES > MOST_BYTES) {
            return NONE;
        }
        tape.addFour(a);
        tape.addFour(b);
        tape.addFour(c);
        tape.addFour(d);
        tape.addFour(e);
        return tape.length;
    }

    public int end(int n) {
        if (n < 0 || n > tape.length) {
            return NONE;
        }
        tape.length = n;
        return n;
    }

    public int text() {
        spare.clear();
        latestFault = reader.readInto(spare);
        latestPlace = latestFault == 0 ? NONE : reader.place;
        tape.length = 0;
        if (latestFault != 0) {
            return NONE;
        }
        Plan former = plan;
        plan = spare;
        spare = former;
        nextBell = 0;
        crew.beginAnew();
        orders.beginAnew();
        rests.beginAnew();
        return plan.bills;
    }

    public int fault(int what) {
        if (what == 0) {
            return latestFault;
        }
        return what == 1 ? latestPlace : NONE;
    }

    public int hand(int watch, int skills) {
        if (watch < 0 || watch >= WATCHES || skills < 0 || skills >= SKILL_SETS) {
            return NONE;
        }
        if (nextBell > 0) {
            return NONE;
        }
        return crew.add(watch, skills);
    }

    public boolean sick(int h, int bells) {
        if (!crew.has(h) || bells < 0 || bells > MOST_SICK_BELLS) {
            return false;
        }
        crew.sickLeft[h] = bells;
        return true;
    }

    public int handOf(int h, int what) {
        if (!crew.has(h)) {
            return NONE;
        }
        switch (what) {
            case 0:
                return crew.watchOf[h];
            case 1:
                return crew.skills[h];
            case 2:
                return crew.sickLeft[h];
            case 3:
                return crew.turns[h];
            case 4:
                return crew.fills[h];
            case 5:
                return crew.breaches[h];
            case 6:
                return crew.worked[h];
            case 7:
                return nextBell == 0 ? NONE : crew.places[h];
            default:
                return crew.learnedBy(h, what - FIRST_LEARNED);
        }
    }

    public int bill(int b, int what) {
        if (!plan.hasBill(b)) {
            return NONE;
        }
        if (what == 0) {
            return plan.billBells[b];
        }
        return what == 1 ? plan.stations[b] : plan.skillAt(b, what - FIRST_STATION);
    }

    public int watch(int ahead) {
        if (ahead < 0 || ahead > MOST_AHEAD) {
            return NONE;
        }
        return plan.watchAt(nextBell + ahead);
    }

    public int order(int bill) {
        if (!plan.hasBill(bill) || orders.count >= MOST_ORDERS) {
            return NONE;
        }
        int nextWatch = plan.watchAt(nextBell);
        if (!fitting.fill(plan, bill, crew, nextWatch)) {
            return NONE;
        }
        int o = orders.add(plan, bill, fitting, crew);
        if (plan.learn > 0) {
            orders.addLearners(o, plan, crew, nextWatch);
        }
        return o;
    }

    public int ordered(int o, int what) {
        if (!orders.has(o)) {
            return NONE;
        }
        switch (what) {
            case 0:
                return orders.billOf[o];
            case 1:
                return orders.left[o];
            case 2:
                return orders.called[o];
            case 3:
                return orders.learners[o];
            default:
                return what < FIRST_LEARNER
                    ? orders.handAt(o, what - FIRST_STATION)
                    : orders.learnerAt(o, what - FIRST_LEARNER);
        }
    }

    public int could(int bill) {
        if (!plan.hasBill(bill)) {
            return NONE;
        }
        return fitting.mostFilled(plan, bill, crew, plan.watchAt(nextBell));
    }

    public int bells(int n) {
        if (n < 1 || n > MOST_BELLS_AT_ONCE || nextBell + n > MOST_BELLS) {
            return NONE;
        }
        for (int i = 0; i < n; i++) {
            workBell();
        }
        return nextBell;
    }

    public int breach(int i, int what) {
        if (!rests.keeps(i)) {
            return NONE;
        }
        switch (what) {
            case 0:
                return rests.breachBell[i];
            case 1:
                return rests.breachHand[i];
            case 2:
                return rests.breachCause[i];
            default:
                return NONE;
        }
    }

    public int about(int what) {
        switch (what) {
            case 0:
                return crew.count;
            case 1:
                return plan.bills;
            case 2:
                return nextBell;
            case 3:
                return orders.count;
            case 4:
                return rests.breachCount;
            case 5:
                return tape.length;
            case 6:
                return plan.roundBells;
            case 7:
                return plan.restBells;
            case 8:
                return plan.freeBells;
            case 9:
                return plan.freeTogether;
            case 10:
                return plan.dull;
            case 11:
                return plan.learn;
            case 12:
                return plan.least;
            default:
                return NONE;
        }
    }

    private void workBell() {
        int ofDay = nextBell % DAY_BELLS;
        if (ofDay == 0) {
            crew.drawGalley(plan.dull);
        }
        crew.takePlaces(plan.watchAt(nextBell), ofDay < GALLEY_BELLS);
        crew.fillWatch(plan.least);
        crew.countWorked();
        // The orders that end below leave no trace in the crew: what broke a rest is noted ahead.
        rests.noteBell(nextBell, plan, crew);
        orders.passBell(plan, crew);
        rests.askBreaches(nextBell, plan, crew);
        crew.passSickBell();
        nextBell++;
    }

    /** The bytes that were fed since the latest text. */
    private static final class Tape {
        final int[] bytes = new int[MOST_BYTES];
        int length = 0;

        void addFour(int four) {
            for (int shift = 24; shift >= 0; shift -= 8) {
                if (length < bytes.length) {
                    bytes[length] = (four >> shift) & 255;
                    length++;
                }
            }
        }

        /** NONE behind the last byte, so that a reader needs no test of its own. */
        int byteAt(int i) {
            return i >= 0 && i < length && i < bytes.length ? bytes[i] : NONE;
        }
    }

    /** What a text without faults says. */
    private static final class Plan {
        private final int[] spanWatch = new int[MOST_SPANS];
        private final int[] spanBells = new int[MOST_SPANS];
        private int spans;
        int roundBells;
        int restBells;
        int freeBells;
        int freeTogether;
        int bills;
        final int[] billBells = new int[MOST_BILLS];
        final int[] stations = new int[MOST_BILLS];
        private final int[] skillRows = new int[MOST_BILLS * MOST_STATIONS];
        int dull;
        int learn;
        int least;

        Plan() {
            clear();
        }

        /** Says what a text without clauses says. */
        void clear() {
            dropSpans();
            addSpan(0, DAY_BELLS);
            restBells = 48;
            freeBells = 0;
            freeTogether = 0;
            bills = 0;
            dull = 0;
            learn = 0;
            least = 0;
        }

        void dropSpans() {
            spans = 0;
            roundBells = 0;
        }

        void addSpan(int ofWatch, int forBells) {
            if (spans < MOST_SPANS) {
                spanWatch[spans] = ofWatch;
                spanBells[spans] = forBells;
                spans++;
                roundBells += forBells;
            }
        }

        int watchAt(int bell) {
            if (bell < 0 || roundBells < 1) {
                return NONE;
            }
            int left = bell % roundBells;
            for (int i = 0; i < spans; i++) {
                if (left < spanBells[i]) {
                    return spanWatch[i];
                }
                left -= spanBells[i];
            }
            return NONE;
        }

        boolean hasBill(int b) {
            return b >= 0 && b < bills;
        }

        /** Opens a bill behind the others; the stations come one kind after the other. */
        void addBill(int forBells) {
            if (bills < MOST_BILLS) {
                billBells[bills] = forBells;
                stations[bills] = 0;
                bills++;
            }
        }

        /** Stations of the latest bill; false, and none come, if it would have too many. */
        boolean addStations(int skill, int number) {
            int b = bills - 1;
            if (b < 0 || number < 0 || stations[b] + number > MOST_STATIONS) {
                return false;
            }
            for (int i = 0; i < number; i++) {
                skillRows[b * MOST_STATIONS + stations[b]] = skill;
                stations[b]++;
            }
            return true;
        }

        int skillAt(int b, int station) {
            if (!hasBill(b) || station < 0 || station >= stations[b]) {
                return NONE;
            }
            return skillRows[b * MOST_STATIONS + station];
        }
    }

    /** Reads the tape token by token into a plan, up to the first fault. */
    private static final class TextReader {
        private static final int CANT_STAND = 1;
        private static final int SECOND_TIME = 2;
        private static final int NOT_TOLD = 3;
        private static final int TOO_MANY = 4;

        private static final int END = 0;
        private static final int NO_TOKEN = 1;
        private static final int NAME = 2;
        private static final int NUMBER = 3;
        private static final int COLON = 4;
        private static final int SEMICOLON = 5;
        /** From here on the keywords, in the order of the row keywords. */
        private static final int WATCH = 6;
        private static final int REST = 7;
        private static final int BILL = 8;
        private static final int DULL = 9;
        private static final int LEARN = 10;

        private static final int MOST_LETTERS = 8;
        private static final int MOST_SPAN_BELLS = 48;
        private static final int MOST_BILL_BELLS = 48;
        private static final int MOST_OF_KIND = 8;
        private static final int MOST_DULL = 8;
        private static final int MOST_LEARN = 100;
        /** Above every number that the text may tell; longer rows of digits stay here. */
        private static final int HUGE = 100000;

        private final Tape tape;
        private final long[] keywords;
        private final long[] billNames = new long[MOST_BILLS];
        private int clausesSeen;
        private int foundFault;
        private int kind;
        int place;
        private int behind;
        private int number;
        private long name;

        TextReader(Tape tape) {
            this.tape = tape;
            keywords = new long[] {
                wordWorth("watch"), wordWorth("rest"), wordWorth("bill"),
                wordWorth("dull"), wordWorth("learn"), wordWorth("least")
            };
        }

        /** The fault (0 without one), whose token begins at place. */
        int readInto(Plan plan) {
            behind = 0;
            clausesSeen = 0;
            foundFault = 0;
            for (int i = 0; i <= MOST_BYTES; i++) {
                nextToken();
                if (kind == END || !readClause(plan)) {
                    return foundFault;
                }
            }
            return foundFault;
        }

        private boolean refuse(int faultNumber) {
            foundFault = faultNumber;
            return false;
        }

        private boolean readClause(Plan plan) {
            if (kind == BILL) {
                return readBillHead(plan) && readKinds(plan);
            }
            if (kind < WATCH) {
                return refuse(CANT_STAND);
            }
            int clause = 1 << kind;
            if ((clausesSeen & clause) != 0) {
                return refuse(SECOND_TIME);
            }
            clausesSeen |= clause;
            if (kind == WATCH) {
                return readSpans(plan);
            }
            return kind == REST ? readRest(plan) : readSetting(kind, plan);
        }

        private boolean readSpans(Plan plan) {
            plan.dropSpans();
            for (int i = 0; i <= MOST_SPANS; i++) {
                nextToken();
                if (kind == SEMICOLON && i > 0) {
                    return true;
                }
                if (!isNumberIn(0, WATCHES - 1)) {
                    return false;
                }
                if (i == MOST_SPANS) {
                    return refuse(TOO_MANY);
                }
                int ofWatch = number;
                nextToken();
                if (!isNumberIn(1, MOST_SPAN_BELLS)) {
                    return false;
                }
                plan.addSpan(ofWatch, number);
            }
            return refuse(TOO_MANY);
        }

        private boolean readRest(Plan plan) {
            nextToken();
            if (!isNumberIn(1, MOST_REST_BELLS)) {
                return false;
            }
            plan.restBells = number;
            nextToken();
            if (!isNumberIn(0, plan.restBells)) {
                return false;
            }
            plan.freeBells = number;
            nextToken();
            if (!isNumberIn(0, plan.restBells)) {
                return false;
            }
            plan.freeTogether = number;
            nextToken();
            return isKind(SEMICOLON);
        }

        private boolean readSetting(int keyword, Plan plan) {
            int highest = keyword == DULL ? MOST_DULL : keyword == LEARN ? MOST_LEARN : MOST_HANDS;
            nextToken();
            if (!isNumberIn(0, highest)) {
                return false;
            }
            if (keyword == DULL) {
                plan.dull = number;
            } else if (keyword == LEARN) {
                plan.learn = number;
            } else {
                plan.least = number;
            }
            nextToken();
            return isKind(SEMICOLON);
        }

        /** From a bill's name to its colon. */
        private boolean readBillHead(Plan plan) {
            nextToken();
            if (!isKind(NAME)) {
                return false;
            }
            if (isBillName(plan.bills)) {
                return refuse(SECOND_TIME);
            }
            if (plan.bills >= MOST_BILLS) {
                return refuse(TOO_MANY);
            }
            billNames[plan.bills] = name;
            nextToken();
            if (!isNumberIn(1, MOST_BILL_BELLS)) {
                return false;
            }
            plan.addBill(number);
            nextToken();
            return isKind(COLON);
        }

        private boolean isBillName(int bills) {
            for (int b = 0; b < bills && b < billNames.length; b++) {
                if (billNames[b] == name) {
                    return true;
                }
            }
            return false;
        }

        private boolean readKinds(Plan plan) {
            for (int i = 0; i <= MOST_STATIONS; i++) {
                nextToken();
                if (kind == SEMICOLON && i > 0) {
                    return true;
                }
                // A name's worth is at most SKILLS for the letters a .. f alone.
                if (kind != NAME || name > SKILLS) {
                    return refuse(CANT_STAND);
                }
                int skill = (int) name - 1;
                nextToken();
                if (!isNumberIn(1, MOST_OF_KIND)) {
                    return false;
                }
                if (!plan.addStations(skill, number)) {
                    return refuse(TOO_MANY);
                }
            }
            return refuse(TOO_MANY);
        }

        private boolean isKind(int wanted) {
            return kind == wanted || refuse(CANT_STAND);
        }

        private boolean isNumberIn(int low, int high) {
            if (kind != NUMBER) {
                return refuse(CANT_STAND);
            }
            return (number >= low && number <= high) || refuse(NOT_TOLD);
        }

        private void nextToken() {
            for (int i = 0; i < MOST_BYTES && isBlank(tape.byteAt(behind)); i++) {
                behind++;
            }
            place = behind;
            int first = tape.byteAt(place);
            if (first == NONE) {
                kind = END;
            } else if (isLetter(first)) {
                takeWord();
            } else if (isDigit(first)) {
                takeNumber();
            } else {
                behind++;
                kind = first == ':' ? COLON : first == ';' ? SEMICOLON : NO_TOKEN;
            }
        }

        private void takeWord() {
            name = 0;
            for (int i = 0; i < MOST_BYTES && isLetter(tape.byteAt(behind)); i++) {
                if (i < MOST_LETTERS) {
                    name = name * 32 + letterWorth(tape.byteAt(behind));
                }
                behind++;
            }
            kind = behind - place > MOST_LETTERS ? NO_TOKEN : kindOfName();
        }

        private int kindOfName() {
            for (int i = 0; i < keywords.length; i++) {
                if (keywords[i] == name) {
                    return WATCH + i;
                }
            }
            return NAME;
        }

        private void takeNumber() {
            number = 0;
            kind = NUMBER;
            for (int i = 0; i < MOST_BYTES && isDigit(tape.byteAt(behind)); i++) {
                number = Math.min(HUGE, number * 10 + tape.byteAt(behind) - '0');
                behind++;
            }
        }

        private static long wordWorth(String word) {
            long worth = 0;
            for (int i = 0; i < word.length(); i++) {
                worth = worth * 32 + letterWorth(word.charAt(i));
            }
            return worth;
        }

        /** From 1 on, so that no two words of up to eight letters have the same worth. */
        private static int letterWorth(int letter) {
            return letter - 'a' + 1;
        }

        private static boolean isLetter(int b) {
            return b >= 'a' && b <= 'z';
        }

        private static boolean isDigit(int b) {
            return b >= '0' && b <= '9';
        }

        private static boolean isBlank(int b) {
            return b == 32 || b == 10;
        }
    }

    /** The hands, what each has done, and where each is at the latest bell. */
    private static final class Crew {
        int count = 0;
        final int[] watchOf = new int[MOST_HANDS];
        final int[] skills = new int[MOST_HANDS];
        final int[] sickLeft = new int[MOST_HANDS];
        final int[] turns = new int[MOST_HANDS];
        final int[] fills = new int[MOST_HANDS];
        final int[] breaches = new int[MOST_HANDS];
        final int[] worked = new int[MOST_HANDS];
        final int[] places = new int[MOST_HANDS];
        /** The order that lasts at whose station, or as whose learner, the hand is; or NONE. */
        final int[] stationOrder = new int[MOST_HANDS];
        final int[] learnerOrder = new int[MOST_HANDS];
        private final int[] learned = new int[MOST_HANDS * SKILLS];
        private final boolean[] galley = new boolean[MOST_HANDS];

        Crew() {
            beginAnew();
        }

        /** The hands stay, with watch and skills. */
        void beginAnew() {
            Arrays.fill(sickLeft, 0);
            Arrays.fill(turns, 0);
            Arrays.fill(fills, 0);
            Arrays.fill(breaches, 0);
            Arrays.fill(worked, 0);
            Arrays.fill(places, 0);
            Arrays.fill(stationOrder, NONE);
            Arrays.fill(learnerOrder, NONE);
            Arrays.fill(learned, 0);
            for (int h = 0; h < MOST_HANDS; h++) {
                galley[h] = false;
            }
        }

        int add(int toWatch, int withSkills) {
            if (count >= MOST_HANDS) {
                return NONE;
            }
            int h = count;
            watchOf[h] = toWatch;
            skills[h] = withSkills;
            count++;
            return h;
        }

        boolean has(int h) {
            return h >= 0 && h < count;
        }

        boolean isWell(int h) {
            return sickLeft[h] == 0;
        }

        boolean hasSkill(int h, int skill) {
            return (skills[h] >> skill & 1) != 0;
        }

        int learnedBy(int h, int skill) {
            if (!has(h) || skill < 0 || skill >= SKILLS) {
                return NONE;
            }
            return learned[h * SKILLS + skill];
        }

        /** Neither at a station nor a learner of an order that lasts. */
        private boolean isAtNone(int h) {
            return stationOrder[h] == NONE && learnerOrder[h] == NONE;
        }

        boolean canBeCalled(int h) {
            return isWell(h) && isAtNone(h);
        }

        /** The hand to learn a skill beside a station, or NONE. */
        int pickLearner(int skill, int nextWatch) {
            int best = NONE;
            for (int h = 0; h < count; h++) {
                boolean may = watchOf[h] == nextWatch && canBeCalled(h) && !hasSkill(h, skill);
                if (may && (best == NONE || learnedBy(h, skill) > learnedBy(best, skill))) {
                    best = h;
                }
            }
            return best;
        }

        void learnOnce(int h, int skill, int timesForSkill) {
            if (!has(h) || skill < 0 || skill >= SKILLS) {
                return;
            }
            int row = h * SKILLS + skill;
            learned[row]++;
            if (learned[row] >= timesForSkill) {
                skills[h] |= 1 << skill;
            }
        }

        void drawGalley(int number) {
            for (int h = 0; h < MOST_HANDS; h++) {
                galley[h] = false;
            }
            for (int i = 0; i < number; i++) {
                int drawn = NONE;
                for (int h = 0; h < count; h++) {
                    if (isWell(h) && !galley[h] && (drawn == NONE || turns[h] < turns[drawn])) {
                        drawn = h;
                    }
                }
                if (drawn == NONE) {
                    return;
                }
                galley[drawn] = true;
                turns[drawn]++;
            }
        }

        /** All places of a bell but those of hands that fill the watch. */
        void takePlaces(int bellWatch, boolean galleyWorks) {
            for (int h = 0; h < count; h++) {
                places[h] = 0;
                if (isWell(h)) {
                    places[h] = (watchOf[h] == bellWatch ? ON_WATCH : 0)
                        + (stationOrder[h] != NONE ? AT_STATION : 0)
                        + (galleyWorks && galley[h] ? IN_GALLEY : 0);
                }
            }
        }

        void fillWatch(int least) {
            int onWatch = 0;
            for (int h = 0; h < count; h++) {
                onWatch += places[h] & ON_WATCH;
            }
            for (int i = onWatch; i < least; i++) {
                int filler = pickFiller();
                if (filler == NONE) {
                    return;
                }
                places[filler] |= FILLING;
                fills[filler]++;
            }
        }

        private int pickFiller() {
            int best = NONE;
            for (int h = 0; h < count; h++) {
                boolean may = isWell(h) && (places[h] & (ON_WATCH | AT_STATION | FILLING)) == 0;
                if (may && (best == NONE || fills[h] < fills[best])) {
                    best = h;
                }
            }
            return best;
        }

        void countWorked() {
            for (int h = 0; h < count; h++) {
                if (places[h] != 0) {
                    worked[h]++;
                }
            }
        }

        void passSickBell() {
            for (int h = 0; h < count; h++) {
                if (sickLeft[h] > 0) {
                    sickLeft[h]--;
                }
            }
        }
    }

    /**
     * Fills a bill's stations. For every set of skills it counts the open stations that ask for
     * one of them and the hands that have one of them: by Hall's theorem the set in which the
     * stations outnumber the hands most tells how many stations stay open at least.
     */
    private static final class Fitting {
        private final int[] asking = new int[SKILL_SETS];
        private final int[] having = new int[SKILL_SETS];
        private final int[] havingOnWatch = new int[SKILL_SETS];
        private final boolean[] open = new boolean[MOST_HANDS];
        final int[] chosen = new int[MOST_STATIONS];
        int called;

        int mostFilled(Plan plan, int bill, Crew crew, int nextWatch) {
            count(plan, bill, crew, nextWatch);
            return plan.stations[bill] - unfilled(having);
        }

        /** True if every station has its hand in chosen; called of them come from below. */
        boolean fill(Plan plan, int bill, Crew crew, int nextWatch) {
            count(plan, bill, crew, nextWatch);
            if (unfilled(having) > 0) {
                return false;
            }
            // What the watch's own hands can't fill is filled by as many from below, no more:
            // a way to fill stations grows to fill all without giving up a hand it has.
            called = unfilled(havingOnWatch);
            int stillCalled = called;
            for (int i = 0; i < plan.stations[bill]; i++) {
                int h = chooseHand(plan.skillAt(bill, i), crew, nextWatch, stillCalled);
                if (h == NONE) {
                    return false;
                }
                chosen[i] = h;
                if (crew.watchOf[h] != nextWatch) {
                    stillCalled--;
                }
            }
            return true;
        }

        private void count(Plan plan, int bill, Crew crew, int nextWatch) {
            Arrays.fill(asking, 0);
            Arrays.fill(having, 0);
            Arrays.fill(havingOnWatch, 0);
            for (int i = 0; i < plan.stations[bill]; i++) {
                change(asking, 1 << plan.skillAt(bill, i), 1);
            }
            for (int h = 0; h < crew.count; h++) {
                open[h] = crew.canBeCalled(h);
                if (open[h]) {
                    changeHand(crew, h, nextWatch, 1);
                }
            }
        }

        private void changeHand(Crew crew, int h, int nextWatch, int by) {
            change(having, crew.skills[h], by);
            if (crew.watchOf[h] == nextWatch) {
                change(havingOnWatch, crew.skills[h], by);
            }
        }

        private static void change(int[] counts, int skillSet, int by) {
            for (int set = 1; set < counts.length; set++) {
                if ((set & skillSet) != 0) {
                    counts[set] += by;
                }
            }
        }

        private int unfilled(int[] hands) {
            int most = 0;
            for (int set = 1; set < SKILL_SETS; set++) {
                most = Math.max(most, asking[set] - hands[set]);
            }
            return most;
        }

        /** The lowest hand with which the stations behind can still be filled, with no more called. */
        private int chooseHand(int skill, Crew crew, int nextWatch, int stillCalled) {
            change(asking, 1 << skill, -1);
            for (int h = 0; h < crew.count; h++) {
                if (open[h] && crew.hasSkill(h, skill)) {
                    int callsOne = crew.watchOf[h] == nextWatch ? 0 : 1;
                    changeHand(crew, h, nextWatch, -1);
                    if (unfilled(having) == 0 && unfilled(havingOnWatch) + callsOne <= stillCalled) {
                        open[h] = false;
                        return h;
                    }
                    changeHand(crew, h, nextWatch, 1);
                }
            }
            return NONE;
        }
    }

    /** The orders of the text, those that ended too. */
    private static final class Orders {
        int count = 0;
        final int[] billOf = new int[MOST_ORDERS];
        final int[] left = new int[MOST_ORDERS];
        final int[] called = new int[MOST_ORDERS];
        final int[] learners = new int[MOST_ORDERS];
        private final int[] stations = new int[MOST_ORDERS];
        private final int[] hands = new int[MOST_ORDERS * MOST_STATIONS];
        private final int[] learnerRows = new int[MOST_ORDERS * MOST_STATIONS];

        void beginAnew() {
            count = 0;
        }

        boolean has(int o) {
            return o >= 0 && o < count;
        }

        private boolean hasStation(int o, int station) {
            return has(o) && station >= 0 && station < stations[o];
        }

        int handAt(int o, int station) {
            return hasStation(o, station) ? hands[o * MOST_STATIONS + station] : NONE;
        }

        int learnerAt(int o, int station) {
            return hasStation(o, station) ? learnerRows[o * MOST_STATIONS + station] : NONE;
        }

        int add(Plan plan, int bill, Fitting fitting, Crew crew) {
            if (count >= MOST_ORDERS) {
                return NONE;
            }
            int o = count;
            count++;
            billOf[o] = bill;
            left[o] = plan.billBells[bill];
            called[o] = fitting.called;
            learners[o] = 0;
            stations[o] = plan.stations[bill];
            for (int i = 0; i < stations[o]; i++) {
                int h = fitting.chosen[i];
                hands[o * MOST_STATIONS + i] = h;
                learnerRows[o * MOST_STATIONS + i] = NONE;
                if (crew.has(h)) {
                    crew.stationOrder[h] = o;
                }
            }
            return o;
        }

        void addLearners(int o, Plan plan, Crew crew, int nextWatch) {
            if (!has(o)) {
                return;
            }
            for (int i = 0; i < stations[o]; i++) {
                int h = crew.pickLearner(plan.skillAt(billOf[o], i), nextWatch);
                if (h != NONE) {
                    learnerRows[o * MOST_STATIONS + i] = h;
                    learners[o]++;
                    crew.learnerOrder[h] = o;
                }
            }
        }

        void passBell(Plan plan, Crew crew) {
            for (int o = 0; o < count; o++) {
                if (left[o] > 0) {
                    left[o]--;
                    if (left[o] == 0) {
                        dismiss(o, plan, crew);
                    }
                }
            }
        }

        private void dismiss(int o, Plan plan, Crew crew) {
            for (int i = 0; i < stations[o]; i++) {
                int h = handAt(o, i);
                if (crew.has(h)) {
                    crew.stationOrder[h] = NONE;
                }
                int learner = learnerAt(o, i);
                if (crew.has(learner)) {
                    crew.learnerOrder[learner] = NONE;
                    crew.learnOnce(learner, plan.skillAt(billOf[o], i), plan.learn);
                }
            }
        }
    }

    /** What each hand had free in the last bells, and the breaches. */
    private static final class Rests {
        /** For each of the last bells a bit for every hand that worked. */
        private final int[] workedBits = new int[MOST_REST_BELLS];
        private final int[] freeBells = new int[MOST_HANDS];
        private final int[] freeRun = new int[MOST_HANDS];
        /** The latest bell that ended a long enough run of free ones. */
        private final int[] restedBell = new int[MOST_HANDS];
        private final int[] stationOrder = new int[MOST_HANDS];
        private final int[] stationBell = new int[MOST_HANDS];
        final int[] breachBell = new int[KEPT_BREACHES];
        final int[] breachHand = new int[KEPT_BREACHES];
        final int[] breachCause = new int[KEPT_BREACHES];
        int breachCount;

        Rests() {
            beginAnew();
        }

        void beginAnew() {
            Arrays.fill(freeBells, 0);
            Arrays.fill(freeRun, 0);
            Arrays.fill(restedBell, NONE);
            Arrays.fill(stationOrder, NONE);
            Arrays.fill(stationBell, NONE);
            breachCount = 0;
        }

        boolean keeps(int i) {
            return i >= 0 && i < breachCount && i < KEPT_BREACHES;
        }

        void noteBell(int bell, Plan plan, Crew crew) {
            // With the longest rest both bells have the same row: the old one is read first.
            int behindBell = bell - plan.restBells;
            int leaving = behindBell < 0 ? 0 : ~workedBits[behindBell % MOST_REST_BELLS];
            int working = 0;
            for (int h = 0; h < crew.count; h++) {
                freeBells[h] -= leaving >> h & 1;
                if (crew.places[h] != 0) {
                    working |= 1 << h;
                    freeRun[h] = 0;
                } else {
                    freeBells[h]++;
                    freeRun[h]++;
                }
                if (freeRun[h] >= plan.freeTogether) {
                    restedBell[h] = bell;
                }
                if ((crew.places[h] & AT_STATION) != 0) {
                    stationOrder[h] = crew.stationOrder[h];
                    stationBell[h] = bell;
                }
            }
            workedBits[bell % MOST_REST_BELLS] = working;
        }

        void askBreaches(int bell, Plan plan, Crew crew) {
            int firstBell = bell + 1 - plan.restBells;
            if (firstBell < 0) {
                return;
            }
            for (int h = 0; h < crew.count; h++) {
                boolean rested = restedBell[h] >= firstBell + plan.freeTogether - 1;
                if (freeBells[h] < plan.freeBells || !rested) {
                    crew.breaches[h]++;
                    // A hand is at one station at a time: its latest order has the highest number.
                    keep(bell, h, stationBell[h] >= firstBell ? stationOrder[h] : NONE);
                }
            }
        }

        private void keep(int bell, int h, int cause) {
            if (breachCount < KEPT_BREACHES) {
                breachBell[breachCount] = bell;
                breachHand[breachCount] = h;
                breachCause[breachCount] = cause;
            }
            breachCount++;
        }
    }
}

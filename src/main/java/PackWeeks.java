import java.util.NoSuchElementException;

/** Six weeks in the pack: a drift, what lies on it, and what can be reckoned of it. */
public final class PackWeeks {
    public static final int NONE = -1;

    /** The answer to a question that is none, where NONE is an answer itself. */
    private static final int NO_SUCH = -2;

    private static final int TAPE_SIGNS = 1000;
    private static final int PLACES = 64;
    private static final int THINGS = 6;
    private static final int LEADS = 6;
    private static final int CREWS = 2;
    private static final int GAPS = 5;
    private static final int SIGNS = 6;
    private static final int LOADS = 6;
    private static final int LINES = 24;
    private static final int SIGHTS = 8;
    private static final int MARKS = 4;
    private static final int UNDOS = 16;

    private static final int FARTHEST = 200;
    private static final int LONGEST_DRIFT = 30;
    private static final int MOST_LENT = 999;
    private static final int LATEST_START = 60;
    private static final int LATEST_ARRIVAL = 120;
    private static final int LATEST_SIGHT = 40;
    private static final int TELLING_STEPS = 13;
    private static final int BEARINGS = 9;
    private static final int MOST_EATEN = 99;
    private static final int MOST_DAYS = 40;
    private static final int WIDEST = 2;
    private static final int LONGEST_ROW = 30;
    private static final int LAST_SEED = 9999;
    private static final int MOST_MONTH_STEPS = 100;

    private static final int KIND_SHIP = 0;
    private static final int KIND_HUT = 1;
    private static final int KIND_BEAR = 2;
    private static final int KIND_CAIRN = 3;

    private static final int FLOW_NORTH = 0;
    private static final int FLOW_EAST = 1;
    private static final int FLOW_SOUTH = 2;
    private static final int FLOW_WEST = 3;
    private static final int FLOW_STILL = 4;

    private static final int DRIFT_LINE = 0;
    private static final int HAUL_LINE = 1;
    private static final int LEND_LINE = 2;
    private static final int HOME_LINE = 3;

    private static final int FAULT_MISPLACED = 1;
    private static final int FAULT_UNKNOWN = 2;
    private static final int FAULT_AGAIN = 3;
    private static final int FAULT_UNFIT = 4;
    private static final int FAULT_TOO_MANY = 5;

    private static final int TOKEN_END = 0;
    private static final int TOKEN_NONE = 1;
    private static final int TOKEN_WORD = 2;
    private static final int TOKEN_NUMBER = 3;
    private static final int TOKEN_SIGN = 4;

    private static final int GROUP_PLAIN = 0;
    private static final int GROUP_FLOW = 1;
    private static final int GROUP_KIND = 2;
    private static final int GROUP_FACT = 3;

    private static final int OP_NONE = 0;
    private static final int OP_NOT = -1;
    private static final int OP_AND = -2;
    private static final int OP_OR = -3;
    private static final int OP_LESS = -4;
    private static final int OP_SAME = -5;
    private static final int OP_PLUS = -6;
    private static final int OP_MINUS = -7;
    private static final int OP_TIMES = -8;
    private static final int FACT_CREWMEN = -9;
    private static final int FACT_TIME = -10;
    private static final int FACT_OUT = -11;

    private static final int LEVEL_LOGIC = 0;
    private static final int LEVEL_TEST = 1;
    private static final int LEVEL_SUM = 2;
    private static final int LEVEL_PRODUCT = 3;
    private static final int LEVEL_PART = 4;
    private static final int DEEPEST = 5;

    private final Tape tape = new Tape();
    private final Reader reader = new Reader(tape);
    private final Stand stand = new Stand();
    private final Stand scratch = new Stand();
    private final Past past = new Past();
    private final Stand[] marks = new Stand[MARKS];
    private final Sights[] markSights = new Sights[MARKS];
    private final boolean[] marked = new boolean[MARKS];
    private final Sights sights = new Sights();
    private final Reckoner reckoner = new Reckoner();
    private Pack told = new Pack();
    private Pack draft = new Pack();
    private Rows lines = new Rows(LINES);
    private Rows draftLines = new Rows(LINES);

    public PackWeeks() {
        for (int i = 0; i < MARKS; i++) {
            marks[i] = new Stand();
            markSights[i] = new Sights();
        }
        beginPack();
    }

    public int feed(long a, long b, long c) {
        tape.put(a);
        tape.put(b);
        tape.put(c);
        return tape.length;
    }

    public int pack() {
        int fault = reader.readPack(draft);
        if (fault != 0) {
            return fault;
        }
        Pack old = told;
        told = draft;
        draft = old;
        beginPack();
        return 0;
    }

    public int weeks() {
        int fault = reader.readWeeks(told, draftLines);
        if (fault != 0) {
            return fault;
        }
        Rows old = lines;
        lines = draftLines;
        draftLines = old;
        return 0;
    }

    public int flow(int x, int y) {
        return told.isPlace(x, y) ? told.flows[placeOf(x, y)] : NONE;
    }

    public int open(int x, int y, int steps) {
        if (!told.isPlace(x, y) || !isWithin(steps, 0, FARTHEST)) {
            return NONE;
        }
        return has(told.openLeads(stand.step + steps), placeOf(x, y)) ? 1 : 0;
    }

    public int thing(int thing, int what) throws NoSuchElementException {
        if (!told.things.holds(thing) || !isWithin(what, 0, 3)) {
            throw new NoSuchElementException("no such thing, or nothing such of it");
        }
        if (what == 0) {
            return told.things.first[thing];
        }
        if (what == 3) {
            return told.crewOf(thing);
        }
        int place = stand.places[thing];
        return what == 1 ? overOf(place) : downOf(place);
    }

    public int crew(int crew, int what) throws NoSuchElementException {
        if (!told.crews.holds(crew) || !isWithin(what, 0, 7)) {
            throw new NoSuchElementException("no such crew, or nothing such of it");
        }
        switch (what) {
            case 0: return told.crews.first[crew];
            case 1: return told.crews.second[crew];
            case 2: return stand.biscuit[crew];
            case 3: return stand.debts[crew];
            case 4: return stand.out[crew] ? 1 : 0;
            case 5: return overOf(stand.sledgePlace(told, crew));
            case 6: return downOf(stand.sledgePlace(told, crew));
            default: return stand.hauled[crew] ? 1 : 0;
        }
    }

    public int drift(int steps) {
        if (!isWithin(steps, 1, LONGEST_DRIFT)) {
            return NONE;
        }
        return byHand(DRIFT_LINE, NONE, steps);
    }

    public boolean haul(int crew, int x, int y) {
        if (!told.crews.holds(crew) || !told.isPlace(x, y)) {
            return false;
        }
        return byHand(HAUL_LINE, crew, placeOf(x, y)) != NONE;
    }

    public int lend(int crew, int biscuit) {
        if (!told.crews.holds(crew) || !isWithin(biscuit, 1, MOST_LENT)) {
            return NONE;
        }
        return byHand(LEND_LINE, crew, biscuit);
    }

    public boolean home(int crew) {
        if (!told.crews.holds(crew)) {
            return false;
        }
        return byHand(HOME_LINE, crew, 0) != NONE;
    }

    public boolean undo() {
        return past.giveBack(stand);
    }

    public int judged(int what) {
        if (!isWithin(what, 0, 2)) {
            return NO_SUCH;
        }
        scratch.begin(told);
        int wrong = NONE;
        for (int i = 0; i < lines.size; i++) {
            int done = act(scratch, lines.first[i], lines.second[i], lines.third[i]);
            if (done == NONE && wrong == NONE) {
                wrong = i;
            }
        }
        if (what == 0) {
            return wrong;
        }
        return what == 1 ? scratch.step : scratch.biscuitOfAll(told);
    }

    public int where(int thing, int steps) {
        if (!told.things.holds(thing) || !isWithin(steps, 0, FARTHEST)) {
            return NONE;
        }
        return told.placeAfter(stand.places[thing], steps);
    }

    public int meet(int one, int other) {
        if (!areTwoThings(one, other)) {
            return NONE;
        }
        int here = stand.places[one];
        int there = stand.places[other];
        for (int k = 0; k <= FARTHEST; k++) {
            if (here == there) {
                return k;
            }
            here = told.next[here];
            there = told.next[there];
        }
        return NONE;
    }

    public int reach(int from, int to, int start) {
        if (!areTwoThings(from, to) || !isWithin(start, 0, LATEST_START)) {
            return NONE;
        }
        return soonest(from, to, start, LATEST_ARRIVAL);
    }

    public int setout(int from, int to) {
        if (!areTwoThings(from, to)) {
            return NONE;
        }
        int due = soonest(from, to, 0, LATEST_ARRIVAL);
        if (due == NONE) {
            return NONE;
        }
        for (int start = LATEST_START; start > 0; start--) {
            if (soonest(from, to, start, due) != NONE) {
                return start;
            }
        }
        return 0;
    }

    public boolean see(int thing, int steps, int bearing) {
        if (!told.things.holds(thing) || !isWithin(steps, 0, LATEST_SIGHT)
                || !isWithin(bearing, 0, BEARINGS - 1)) {
            return false;
        }
        return sights.note(thing, stand.step + steps, bearing);
    }

    public long fits() {
        return sights.fitting(told, stand.step);
    }

    public int tells() {
        return sights.mostTelling(told, stand);
    }

    public int lasts(int crew) {
        if (!told.crews.holds(crew)) {
            return NONE;
        }
        int left = stand.biscuit[crew];
        for (int k = 0; k < FARTHEST; k++) {
            left -= stand.appetite(told, crew, stand.step + k);
            if (left < 0) {
                return k;
            }
        }
        return FARTHEST;
    }

    public int share() throws NoSuchElementException {
        if (told.crews.size != CREWS) {
            throw new NoSuchElementException("no two crews");
        }
        int all = stand.biscuitOfAll(told);
        int first = 0;
        int second = 0;
        for (int k = 0; k < FARTHEST; k++) {
            int firstThen = first + stand.appetite(told, 0, stand.step + k);
            int secondThen = second + stand.appetite(told, 1, stand.step + k);
            if (firstThen + secondThen > all) {
                break;
            }
            first = firstThen;
            second = secondThen;
        }
        // Both last so long if the first gives no less than the one and no more than the other.
        int least = second - stand.biscuit[1];
        int most = stand.biscuit[0] - first;
        if (least > 0) {
            return least;
        }
        return most < 0 ? most : 0;
    }

    public int through(int gap, int days) {
        if (!isWithin(gap, 0, told.gaps.size) || !isWithin(days, 0, MOST_DAYS)) {
            return NONE;
        }
        reckoner.fillGaps(told.gaps, days);
        return reckoner.gapChance(gap, Reckoner.SHUT, days);
    }

    public int now(int gap, int wide, int days) {
        if (!told.gaps.holds(gap) || !isWithin(wide, 0, WIDEST) || !isWithin(days, 0, MOST_DAYS)) {
            return NONE;
        }
        reckoner.fillGaps(told.gaps, days);
        int going = reckoner.goingChance(told.gaps, gap, wide, days);
        return going >= reckoner.gapChance(gap, wide, days) ? 1 : 0;
    }

    public int lost(int days, int what) {
        if (!isWithin(days, 1, LONGEST_ROW) || !isWithin(what, 0, 1)) {
            return NONE;
        }
        reckoner.fillLooks(told.look, days);
        return what == 0 ? reckoner.lookCost(1, days) : reckoner.firstLook;
    }

    public int code(int sign) {
        if (told.signs.size == 0 || sign != NONE && !told.signs.holds(sign)) {
            return NO_SUCH;
        }
        reckoner.findLampRows(told.signs);
        return sign == NONE ? reckoner.lampTotal : reckoner.lampRow(sign, told.signs.size);
    }

    public int carry(int what) {
        if (!isWithin(what, 0, 1)) {
            return NO_SUCH;
        }
        reckoner.fillLoads(told);
        return what == 0 ? reckoner.loadWorth(0) : reckoner.firstLoad;
    }

    public int months(int seed, int steps, int what) {
        if (!isWithin(seed, 0, LAST_SEED) || !isWithin(steps, 1, MOST_MONTH_STEPS) || !isWithin(what, 0, 2)) {
            return NONE;
        }
        scratch.take(stand);
        long draws = seed;
        int visits = 0;
        int eaten = 0;
        int hungry = 0;
        for (int i = 0; i < steps; i++) {
            draws = scratch.strayBears(told, draws);
            eaten += scratch.passStep(told);
            visits += scratch.bearVisits(told);
            hungry += scratch.hasHungryCrew(told) ? 1 : 0;
        }
        if (what == 0) {
            return visits;
        }
        return what == 1 ? eaten : hungry;
    }

    public boolean mark(int mark, boolean back) {
        if (!isWithin(mark, 0, MARKS - 1) || back && !marked[mark]) {
            return false;
        }
        if (back) {
            stand.take(marks[mark]);
            sights.take(markSights[mark]);
            past.clear();
        } else {
            marks[mark].take(stand);
            markSights[mark].take(sights);
            marked[mark] = true;
        }
        return true;
    }

    public int count(int what) {
        switch (what) {
            case 0: return told.over;
            case 1: return told.down;
            case 2: return told.things.size;
            case 3: return told.leads.size;
            case 4: return told.crews.size;
            case 5: return stand.step;
            case 6: return told.gaps.size;
            case 7: return told.signs.size;
            case 8: return told.loads.size;
            case 9: return lines.size;
            case 10: return sights.size;
            case 11: return past.size;
            case 12: return tape.length;
            default: return NONE;
        }
    }

    private void beginPack() {
        stand.begin(told);
        lines.clear();
        sights.size = 0;
        past.clear();
        for (int i = 0; i < MARKS; i++) {
            marked[i] = false;
        }
    }

    /** What can't be changes nothing, so only what was done is kept to be undone. */
    private int byHand(int line, int crew, int number) {
        scratch.take(stand);
        int done = act(stand, line, crew, number);
        if (done != NONE) {
            past.keep(scratch);
        }
        return done;
    }

    /** Does one line of the WEEKS; NONE if it can't be. */
    private int act(Stand on, int line, int crew, int number) {
        if (line == DRIFT_LINE) {
            for (int i = 0; i < number && i < LONGEST_DRIFT; i++) {
                on.passStep(told);
            }
            return on.step;
        }
        if (!told.crews.holds(crew)) {
            return NONE;
        }
        if (line == HAUL_LINE) {
            return on.haulSledge(told, crew, number) ? 0 : NONE;
        }
        if (line == LEND_LINE) {
            return on.lendBiscuit(told, crew, number);
        }
        return on.bringIn(told, crew) ? 0 : NONE;
    }

    private boolean areTwoThings(int one, int other) {
        return told.things.holds(one) && told.things.holds(other) && one != other;
    }

    /** All PLACES where a sledge can be are moved at once, as bits. */
    private int soonest(int from, int to, int start, int latest) {
        long sledge = bit(told.placeAfter(stand.places[from], start));
        int goal = told.placeAfter(stand.places[to], start);
        for (int k = start; k <= latest; k++) {
            sledge = told.hauledFrom(sledge, stand.step + k);
            if (has(sledge, goal)) {
                return k;
            }
            sledge = told.drifted(sledge);
            goal = told.next[goal];
        }
        return NONE;
    }

    private static boolean isWithin(int number, int least, int most) {
        return number >= least && number <= most;
    }

    private static int placeOf(int over, int down) {
        return over + 8 * down;
    }

    private static int overOf(int place) {
        return place & 7;
    }

    private static int downOf(int place) {
        return place >> 3;
    }

    private static long bit(int place) {
        return 1L << place;
    }

    private static boolean has(long places, int place) {
        return (places & bit(place)) != 0;
    }

    /** The WORDS that mean something; the facts of laws are no kept ones: a NAME may be alike. */
    private enum Word {
        GRID("grid", GROUP_PLAIN, 0),
        DRIFT("drift", GROUP_PLAIN, 0),
        THING("thing", GROUP_PLAIN, 0),
        AT("at", GROUP_PLAIN, 0),
        LEAD("lead", GROUP_PLAIN, 0),
        ROUND("round", GROUP_PLAIN, 0),
        FROM("from", GROUP_PLAIN, 0),
        FOR("for", GROUP_PLAIN, 0),
        CREW("crew", GROUP_PLAIN, 0),
        MEN("men", GROUP_PLAIN, 0),
        BISCUIT("biscuit", GROUP_PLAIN, 0),
        PACE("pace", GROUP_PLAIN, 0),
        GAP("gap", GROUP_PLAIN, 0),
        OPENS("opens", GROUP_PLAIN, 0),
        NIPS("nips", GROUP_PLAIN, 0),
        SIGN("sign", GROUP_PLAIN, 0),
        OFTEN("often", GROUP_PLAIN, 0),
        LOAD("load", GROUP_PLAIN, 0),
        WORTH("worth", GROUP_PLAIN, 0),
        TAKES("takes", GROUP_PLAIN, 0),
        EAT("eat", GROUP_PLAIN, 0),
        LOOK("look", GROUP_PLAIN, 0),
        BREAK("break", GROUP_PLAIN, 0),
        HAUL("haul", GROUP_PLAIN, 0),
        LEND("lend", GROUP_PLAIN, 0),
        HOME("home", GROUP_PLAIN, 0),
        NORTH("north", GROUP_FLOW, FLOW_NORTH),
        EAST("east", GROUP_FLOW, FLOW_EAST),
        SOUTH("south", GROUP_FLOW, FLOW_SOUTH),
        WEST("west", GROUP_FLOW, FLOW_WEST),
        STILL("still", GROUP_FLOW, FLOW_STILL),
        SHIP("ship", GROUP_KIND, KIND_SHIP),
        HUT("hut", GROUP_KIND, KIND_HUT),
        BEAR("bear", GROUP_KIND, KIND_BEAR),
        CAIRN("cairn", GROUP_KIND, KIND_CAIRN),
        NOT("not", GROUP_PLAIN, 0),
        AND("and", GROUP_PLAIN, 0),
        OR("or", GROUP_PLAIN, 0),
        CREWMEN("crewmen", GROUP_FACT, FACT_CREWMEN),
        STEP("step", GROUP_FACT, FACT_TIME),
        OUT("out", GROUP_FACT, FACT_OUT),
        DAY("day", GROUP_FACT, FACT_TIME);

        private static final Word[] ALL = values();

        final long key;
        final int group;
        final int rank;

        Word(String text, int group, int rank) {
            long sum = 0;
            for (int i = 0; i < text.length(); i++) {
                sum = sum * 32 + (text.charAt(i) - 'a' + 1);
            }
            this.key = sum;
            this.group = group;
            this.rank = rank;
        }

        static Word ofKey(long key) {
            for (int i = 0; i < ALL.length; i++) {
                if (ALL[i].key == key) {
                    return ALL[i];
                }
            }
            return null;
        }
    }

    /** The TAPE, and the row of its TOKENS while it is read, with the first FAULT found there. */
    private static final class Tape {
        private static final int LONGEST_WORD = 8;
        private static final int LONGEST_NUMBER = 4;

        int length;
        int fault;
        private final byte[] signs = new byte[TAPE_SIGNS];
        private final int[] types = new int[TAPE_SIGNS + 1];
        private final int[] starts = new int[TAPE_SIGNS + 1];
        private final long[] values = new long[TAPE_SIGNS + 1];
        private final Word[] words = new Word[TAPE_SIGNS + 1];
        private int size;
        private int here;

        void put(long eight) {
            for (int shift = 56; shift >= 0; shift -= 8) {
                int sign = (int) (eight >> shift & 255);
                if (length < TAPE_SIGNS && (sign == 10 || sign >= 32 && sign <= 126)) {
                    signs[length] = (byte) sign;
                    length++;
                }
            }
        }

        /** Cuts the signs into TOKENS and empties the TAPE. */
        void cut() {
            size = 0;
            here = 0;
            fault = 0;
            int at = 0;
            for (int i = 0; i < TAPE_SIGNS && at < length; i++) {
                at = isBlank(signs[at]) ? at + 1 : cutToken(at);
            }
            addToken(TOKEN_END, length, 0);
            length = 0;
        }

        private int cutToken(int at) {
            int sign = signs[at];
            if (isLetter(sign)) {
                return cutWord(at);
            }
            if (isDigit(sign)) {
                return cutNumber(at);
            }
            boolean known = sign == '(' || sign == ')' || sign == '<' || sign == '='
                    || sign == '+' || sign == '-' || sign == '*' || sign == ';';
            addToken(known ? TOKEN_SIGN : TOKEN_NONE, at, sign);
            return at + 1;
        }

        private int cutWord(int at) {
            int end = at;
            long key = 0;
            while (end < length && isLetter(signs[end])) {
                key = key * 32 + (signs[end] - 'a' + 1);
                end++;
            }
            addToken(end - at > LONGEST_WORD ? TOKEN_NONE : TOKEN_WORD, at, key);
            return end;
        }

        private int cutNumber(int at) {
            int end = at;
            long number = 0;
            while (end < length && isDigit(signs[end])) {
                number = number * 10 + (signs[end] - '0');
                end++;
            }
            addToken(end - at > LONGEST_NUMBER ? TOKEN_NONE : TOKEN_NUMBER, at, number);
            return end;
        }

        private void addToken(int type, int at, long value) {
            if (size < types.length) {
                types[size] = type;
                starts[size] = at;
                values[size] = value;
                words[size] = type == TOKEN_WORD ? Word.ofKey(value) : null;
                size++;
            }
        }

        private static boolean isBlank(int sign) {
            return sign == 10 || sign == 32;
        }

        private static boolean isLetter(int sign) {
            return sign >= 'a' && sign <= 'z';
        }

        private static boolean isDigit(int sign) {
            return sign >= '0' && sign <= '9';
        }

        boolean goesOn() {
            return fault == 0 && types[here] != TOKEN_END;
        }

        /** Only the first wrong token tells, and of it what is said first. */
        void wrong(int kind) {
            if (fault == 0) {
                fault = kind + 16 * starts[here];
            }
        }

        /** Behind a FAULT nothing is read any more. */
        void goOn() {
            if (fault == 0 && here + 1 < size) {
                here++;
            }
        }

        boolean isWord(Word word) {
            return words[here] == word;
        }

        boolean isSign(char sign) {
            return types[here] == TOKEN_SIGN && values[here] == sign;
        }

        boolean isNumber() {
            return types[here] == TOKEN_NUMBER;
        }

        int value() {
            return (int) values[here];
        }

        Word word() {
            return words[here];
        }

        void takeWord(Word word) {
            if (!isWord(word)) {
                wrong(FAULT_MISPLACED);
            }
            goOn();
        }

        void takeSign(char sign) {
            if (!isSign(sign)) {
                wrong(FAULT_MISPLACED);
            }
            goOn();
        }

        int takeNumber(int least, int most) {
            if (!isNumber()) {
                wrong(FAULT_MISPLACED);
                return 0;
            }
            int number = value();
            if (!isWithin(number, least, most)) {
                wrong(FAULT_UNFIT);
            }
            goOn();
            return number;
        }

        /** The rank of a FLOW or of a KIND. */
        int takeRank(int group) {
            Word word = words[here];
            if (word == null || word.group != group) {
                wrong(FAULT_MISPLACED);
                return 0;
            }
            goOn();
            return word.rank;
        }

        /** The NAME that stands here, not yet taken: its reader may find it wrong. */
        long seeName() {
            Word word = words[here];
            if (types[here] != TOKEN_WORD || word != null && word.group != GROUP_FACT) {
                wrong(FAULT_MISPLACED);
                return 0;
            }
            return values[here];
        }
    }

    /** Rows of a name and four numbers, as many as may be told. */
    private static final class Rows {
        final long[] names;
        final int[] first;
        final int[] second;
        final int[] third;
        final int[] fourth;
        int size;

        Rows(int most) {
            names = new long[most];
            first = new int[most];
            second = new int[most];
            third = new int[most];
            fourth = new int[most];
        }

        void clear() {
            size = 0;
        }

        boolean isFull() {
            return size >= names.length;
        }

        boolean holds(int row) {
            return row >= 0 && row < size;
        }

        void add(long name, int one, int two, int three, int four) {
            if (!isFull()) {
                names[size] = name;
                first[size] = one;
                second[size] = two;
                third[size] = three;
                fourth[size] = four;
                size++;
            }
        }

        int find(long name) {
            for (int i = 0; i < size; i++) {
                if (names[i] == name) {
                    return i;
                }
            }
            return NONE;
        }
    }

    /** An E, its operators behind their parts: numbers from 0 on, operators and facts below 0. */
    private static final class Law {
        /** Four left sides a level wait at most, and there are no more levels than DEEPEST. */
        private final int[] stack = new int[4 * (DEEPEST + 1) + 1];
        private final int[] codes = new int[TAPE_SIGNS];
        private int size;

        void clear() {
            size = 0;
        }

        void add(int code) {
            if (size < codes.length) {
                codes[size] = code;
                size++;
            }
        }

        /** What comes of it, no less than 0 and no more than most; time: a step or a day. */
        int valueWithin(int most, int men, int time, int out) {
            int top = 0;
            for (int i = 0; i < size; i++) {
                int code = codes[i];
                if (code == OP_NOT) {
                    if (top > 0) {
                        stack[top - 1] = stack[top - 1] == 0 ? 1 : 0;
                    }
                } else if (code < 0 && code >= OP_TIMES) {
                    if (top > 1) {
                        top--;
                        stack[top - 1] = joined(code, stack[top - 1], stack[top]);
                    }
                } else if (top < stack.length) {
                    stack[top] = part(code, men, time, out);
                    top++;
                }
            }
            return top > 0 ? Math.max(0, Math.min(most, stack[0])) : 0;
        }

        private static int part(int code, int men, int time, int out) {
            switch (code) {
                case FACT_CREWMEN: return men;
                case FACT_TIME: return time;
                case FACT_OUT: return out;
                default: return code;
            }
        }

        private static int joined(int code, int left, int right) {
            switch (code) {
                case OP_AND: return left != 0 && right != 0 ? 1 : 0;
                case OP_OR: return left != 0 || right != 0 ? 1 : 0;
                case OP_LESS: return left < right ? 1 : 0;
                case OP_SAME: return left == right ? 1 : 0;
                case OP_PLUS: return left + right;
                case OP_MINUS: return left - right;
                default: return left * right;
            }
        }
    }

    /** A PACK as it is told, and what follows of its drift alone. */
    private static final class Pack {
        private static final int JUMPS = 16;
        private static final long NOT_FIRST_OVER = 0xFEFEFEFEFEFEFEFEL;
        private static final long NOT_LAST_OVER = 0x7F7F7F7F7F7F7F7FL;

        int over;
        int down;
        int pace;
        final int[] flows = new int[PLACES];
        final int[] next = new int[PLACES];
        /** Things: KIND, PLACE told. Leads: PLACE, round, from, for. Crews: ship, men, biscuit. */
        final Rows things = new Rows(THINGS);
        final Rows leads = new Rows(LEADS);
        final Rows crews = new Rows(CREWS);
        /** Gaps: opens, nips. Signs: often. Loads: worth, takes. */
        final Rows gaps = new Rows(GAPS);
        final Rows signs = new Rows(SIGNS);
        final Rows loads = new Rows(LOADS);
        final Law eat = new Law();
        final Law look = new Law();
        final Law crack = new Law();
        private final long[] flowing = new long[FLOW_STILL + 1];
        private final int[][] jumps = new int[JUMPS][PLACES];
        private long grid;

        Pack() {
            clear();
            settle();
        }

        void clear() {
            over = 2;
            down = 2;
            pace = 2;
            for (int i = 0; i < PLACES; i++) {
                flows[i] = FLOW_STILL;
            }
            things.clear();
            leads.clear();
            crews.clear();
            gaps.clear();
            signs.clear();
            loads.clear();
            eat.clear();
            eat.add(FACT_CREWMEN);
            look.clear();
            look.add(1);
            crack.clear();
            crack.add(1);
        }

        /** Makes what follows of the grid and its FLOWS, once all is told. */
        void settle() {
            grid = 0;
            for (int i = 0; i <= FLOW_STILL; i++) {
                flowing[i] = 0;
            }
            for (int place = 0; place < PLACES; place++) {
                next[place] = neighbour(place, flows[place]);
                jumps[0][place] = next[place];
                if (isPlace(overOf(place), downOf(place))) {
                    grid |= bit(place);
                    flowing[next[place] == place ? FLOW_STILL : flows[place]] |= bit(place);
                }
            }
            for (int i = 1; i < JUMPS; i++) {
                for (int place = 0; place < PLACES; place++) {
                    jumps[i][place] = jumps[i - 1][jumps[i - 1][place]];
                }
            }
        }

        boolean isPlace(int x, int y) {
            return x >= 0 && x < over && y >= 0 && y < down;
        }

        /** The PLACE one to the north .. west, or the same one at the grid's edge. */
        int neighbour(int place, int way) {
            int x = overOf(place) + (way == FLOW_EAST ? 1 : way == FLOW_WEST ? -1 : 0);
            int y = downOf(place) + (way == FLOW_SOUTH ? 1 : way == FLOW_NORTH ? -1 : 0);
            return isPlace(x, y) ? placeOf(x, y) : place;
        }

        /** Jumps of 1, 2, 4 .. steps, since a sight may be thousands of steps from the begin. */
        int placeAfter(int place, int steps) {
            int at = place;
            for (int i = 0; i < JUMPS; i++) {
                if ((steps >> i & 1) != 0) {
                    at = jumps[i][at];
                }
            }
            return at;
        }

        long drifted(long places) {
            return (places & flowing[FLOW_NORTH]) >>> 8
                    | (places & flowing[FLOW_EAST]) << 1
                    | (places & flowing[FLOW_SOUTH]) << 8
                    | (places & flowing[FLOW_WEST]) >>> 1
                    | places & flowing[FLOW_STILL];
        }

        long openLeads(int step) {
            long open = 0;
            for (int i = 0; i < leads.size; i++) {
                int round = leads.second[i];
                if (round > 0 && Math.floorMod(step - leads.third[i], round) < leads.fourth[i]) {
                    open |= bit(leads.first[i]);
                }
            }
            return open;
        }

        /** All PLACES where sledges that stand at some can be, hauled or not. */
        long hauledFrom(long places, int step) {
            long free = grid & ~openLeads(step);
            long come = places;
            for (int i = 0; i < pace; i++) {
                long beside = come >>> 8 | come << 8
                        | (come & NOT_LAST_OVER) << 1 | (come & NOT_FIRST_OVER) >>> 1;
                come |= beside & free;
            }
            return come;
        }

        long gridPlaces() {
            return grid;
        }

        boolean isTold(long name) {
            return things.find(name) != NONE || gaps.find(name) != NONE
                    || signs.find(name) != NONE || loads.find(name) != NONE;
        }

        int shipNamed(long name) {
            int thing = things.find(name);
            return thing != NONE && things.first[thing] == KIND_SHIP ? thing : NONE;
        }

        int crewOf(int thing) {
            for (int i = 0; i < crews.size; i++) {
                if (crews.first[i] == thing) {
                    return i;
                }
            }
            return NONE;
        }

        boolean hasLead(int place) {
            for (int i = 0; i < leads.size; i++) {
                if (leads.first[i] == place) {
                    return true;
                }
            }
            return false;
        }
    }

    /** Reads PACKS and WEEKS from the TAPE; behind a FAULT what it reads is of no use. */
    private static final class Reader {
        private final Tape tape;
        private Pack pack;
        private Law law;
        private Word lawWord;
        private boolean paceTold;
        private boolean eatTold;
        private boolean lookTold;
        private boolean breakTold;

        Reader(Tape tape) {
            this.tape = tape;
        }

        int readPack(Pack into) {
            pack = into;
            pack.clear();
            paceTold = false;
            eatTold = false;
            lookTold = false;
            breakTold = false;
            tape.cut();
            tape.takeWord(Word.GRID);
            pack.over = tape.takeNumber(2, 8);
            pack.down = tape.takeNumber(2, 8);
            tape.takeSign(';');
            for (int i = 0; i < TAPE_SIGNS && tape.goesOn(); i++) {
                packLine(tape.word());
            }
            if (tape.fault == 0) {
                pack.settle();
            }
            return tape.fault;
        }

        private void packLine(Word word) {
            if (word == Word.DRIFT) {
                driftLine();
            } else if (word == Word.THING) {
                thingLine();
            } else if (word == Word.LEAD) {
                leadLine();
            } else if (word == Word.CREW) {
                crewLine();
            } else if (word == Word.PACE) {
                paceLine();
            } else if (word == Word.GAP) {
                gapLine();
            } else if (word == Word.SIGN) {
                signLine();
            } else if (word == Word.LOAD) {
                loadLine();
            } else if (word == Word.EAT) {
                eatTold = lawLine(word, pack.eat, eatTold);
            } else if (word == Word.LOOK) {
                lookTold = lawLine(word, pack.look, lookTold);
            } else if (word == Word.BREAK) {
                breakTold = lawLine(word, pack.crack, breakTold);
            } else {
                tape.wrong(FAULT_MISPLACED);
            }
        }

        private void driftLine() {
            tape.goOn();
            int row = tape.takeNumber(0, pack.down - 1);
            int way = tape.takeRank(GROUP_FLOW);
            int from = tape.takeNumber(0, pack.over - 1);
            int to = tape.takeNumber(from, pack.over - 1);
            tape.takeSign(';');
            if (tape.fault == 0) {
                for (int x = from; x <= to; x++) {
                    pack.flows[placeOf(x, row)] = way;
                }
            }
        }

        private void thingLine() {
            startRow(pack.things);
            long name = newName();
            int kind = tape.takeRank(GROUP_KIND);
            tape.takeWord(Word.AT);
            int x = tape.takeNumber(0, pack.over - 1);
            int y = tape.takeNumber(0, pack.down - 1);
            endRow(pack.things, name, kind, placeOf(x, y), 0, 0);
        }

        private void leadLine() {
            startRow(pack.leads);
            int x = tape.takeNumber(0, pack.over - 1);
            if (tape.fault == 0 && tape.isNumber() && isWithin(tape.value(), 0, pack.down - 1)
                    && pack.hasLead(placeOf(x, tape.value()))) {
                tape.wrong(FAULT_AGAIN);
            }
            int y = tape.takeNumber(0, pack.down - 1);
            tape.takeWord(Word.ROUND);
            int round = tape.takeNumber(1, 30);
            tape.takeWord(Word.FROM);
            int from = tape.takeNumber(0, round - 1);
            tape.takeWord(Word.FOR);
            int lasting = tape.takeNumber(0, round);
            endRow(pack.leads, 0, placeOf(x, y), round, from, lasting);
        }

        private void crewLine() {
            startRow(pack.crews);
            long name = tape.seeName();
            int ship = pack.shipNamed(name);
            if (ship == NONE) {
                tape.wrong(FAULT_UNKNOWN);
            } else if (pack.crewOf(ship) != NONE) {
                tape.wrong(FAULT_AGAIN);
            }
            tape.goOn();
            tape.takeWord(Word.MEN);
            int men = tape.takeNumber(1, 30);
            tape.takeWord(Word.BISCUIT);
            int biscuit = tape.takeNumber(0, 9999);
            endRow(pack.crews, name, ship, men, biscuit, 0);
        }

        private void paceLine() {
            if (paceTold) {
                tape.wrong(FAULT_AGAIN);
            }
            paceTold = true;
            tape.goOn();
            pack.pace = tape.takeNumber(1, 4);
            tape.takeSign(';');
        }

        private void gapLine() {
            startRow(pack.gaps);
            long name = newName();
            tape.takeWord(Word.OPENS);
            int opens = tape.takeNumber(0, 10);
            tape.takeWord(Word.NIPS);
            int nips = tape.takeNumber(0, 10);
            endRow(pack.gaps, name, opens, nips, 0, 0);
        }

        private void signLine() {
            startRow(pack.signs);
            long name = newName();
            tape.takeWord(Word.OFTEN);
            int often = tape.takeNumber(1, 99);
            endRow(pack.signs, name, often, 0, 0, 0);
        }

        private void loadLine() {
            startRow(pack.loads);
            long name = newName();
            tape.takeWord(Word.WORTH);
            int worth = tape.takeNumber(0, 999);
            tape.takeWord(Word.TAKES);
            int takes = tape.takeNumber(1, 9);
            endRow(pack.loads, name, worth, takes, 0, 0);
        }

        private void startRow(Rows rows) {
            if (rows.isFull()) {
                tape.wrong(FAULT_TOO_MANY);
            }
            tape.goOn();
        }

        private void endRow(Rows rows, long name, int one, int two, int three, int four) {
            tape.takeSign(';');
            if (tape.fault == 0) {
                rows.add(name, one, two, three, four);
            }
        }

        private long newName() {
            long name = tape.seeName();
            if (pack.isTold(name)) {
                tape.wrong(FAULT_AGAIN);
            }
            tape.goOn();
            return name;
        }

        private boolean lawLine(Word word, Law into, boolean again) {
            if (again) {
                tape.wrong(FAULT_AGAIN);
            }
            tape.goOn();
            law = into;
            lawWord = word;
            law.clear();
            readLevel(LEVEL_LOGIC, 0);
            tape.takeSign(';');
            return true;
        }

        /** One level of an E's operators, and within it the closer ones; depth: of not and ( ). */
        private void readLevel(int level, int depth) {
            if (level >= LEVEL_PART) {
                readPart(depth);
                return;
            }
            readLevel(level + 1, depth);
            int most = level == LEVEL_TEST ? 1 : TAPE_SIGNS;
            for (int i = 0; i < most; i++) {
                int code = operatorHere(level);
                if (code == OP_NONE) {
                    return;
                }
                tape.goOn();
                readLevel(level + 1, depth);
                law.add(code);
            }
        }

        private int operatorHere(int level) {
            if (tape.fault != 0) {
                return OP_NONE;
            }
            if (level == LEVEL_LOGIC) {
                return tape.isWord(Word.AND) ? OP_AND : tape.isWord(Word.OR) ? OP_OR : OP_NONE;
            }
            if (level == LEVEL_TEST) {
                return tape.isSign('<') ? OP_LESS : tape.isSign('=') ? OP_SAME : OP_NONE;
            }
            if (level == LEVEL_SUM) {
                return tape.isSign('+') ? OP_PLUS : tape.isSign('-') ? OP_MINUS : OP_NONE;
            }
            return tape.isSign('*') ? OP_TIMES : OP_NONE;
        }

        private void readPart(int depth) {
            if (!beginsPart()) {
                tape.wrong(FAULT_MISPLACED);
            } else if (depth >= DEEPEST) {
                tape.wrong(FAULT_TOO_MANY);
            }
            if (tape.fault != 0) {
                return;
            }
            if (tape.isNumber()) {
                law.add(tape.value());
                tape.goOn();
            } else if (tape.isSign('(')) {
                tape.goOn();
                readLevel(LEVEL_LOGIC, depth + 1);
                tape.takeSign(')');
            } else if (tape.isWord(Word.NOT)) {
                tape.goOn();
                readPart(depth + 1);
                law.add(OP_NOT);
            } else {
                addFact(tape.word());
                tape.goOn();
            }
        }

        private boolean beginsPart() {
            return tape.isNumber() || tape.isSign('(') || tape.isWord(Word.NOT) || isFact(tape.word());
        }

        private boolean isFact(Word word) {
            if (lawWord == Word.EAT) {
                return word == Word.CREWMEN || word == Word.STEP || word == Word.OUT;
            }
            return word == (lawWord == Word.LOOK ? Word.DAY : Word.STEP);
        }

        private void addFact(Word word) {
            if (word != null) {
                law.add(word.rank);
            }
        }

        int readWeeks(Pack of, Rows into) {
            pack = of;
            into.clear();
            tape.cut();
            for (int i = 0; i < TAPE_SIGNS && tape.goesOn(); i++) {
                weekLine(tape.word(), into);
            }
            return tape.fault;
        }

        private void weekLine(Word word, Rows into) {
            if (word == Word.DRIFT) {
                startRow(into);
                endRow(into, 0, DRIFT_LINE, NONE, tape.takeNumber(1, LONGEST_DRIFT), 0);
            } else if (word == Word.HAUL) {
                startRow(into);
                int crew = crewHere();
                int x = tape.takeNumber(0, pack.over - 1);
                int y = tape.takeNumber(0, pack.down - 1);
                endRow(into, 0, HAUL_LINE, crew, placeOf(x, y), 0);
            } else if (word == Word.LEND) {
                startRow(into);
                int crew = crewHere();
                endRow(into, 0, LEND_LINE, crew, tape.takeNumber(1, MOST_LENT), 0);
            } else if (word == Word.HOME) {
                startRow(into);
                endRow(into, 0, HOME_LINE, crewHere(), 0, 0);
            } else {
                tape.wrong(FAULT_MISPLACED);
            }
        }

        private int crewHere() {
            int crew = pack.crews.find(tape.seeName());
            if (crew == NONE) {
                tape.wrong(FAULT_UNKNOWN);
            }
            tape.goOn();
            return crew;
        }
    }

    /** How all stands at one time: what UNDO and the MARKS bring back. */
    private static final class Stand {
        int step;
        final int[] places = new int[THINGS];
        final int[] biscuit = new int[CREWS];
        final int[] debts = new int[CREWS];
        final boolean[] out = new boolean[CREWS];
        final boolean[] hauled = new boolean[CREWS];
        private final int[] sledges = new int[CREWS];

        void begin(Pack pack) {
            step = 0;
            for (int i = 0; i < pack.things.size; i++) {
                places[i] = pack.things.second[i];
            }
            for (int i = 0; i < CREWS; i++) {
                biscuit[i] = pack.crews.holds(i) ? pack.crews.third[i] : 0;
                debts[i] = 0;
                out[i] = false;
                hauled[i] = false;
                sledges[i] = 0;
            }
        }

        void take(Stand other) {
            step = other.step;
            for (int i = 0; i < THINGS; i++) {
                places[i] = other.places[i];
            }
            for (int i = 0; i < CREWS; i++) {
                biscuit[i] = other.biscuit[i];
                debts[i] = other.debts[i];
                out[i] = other.out[i];
                hauled[i] = other.hauled[i];
                sledges[i] = other.sledges[i];
            }
        }

        int sledgePlace(Pack pack, int crew) {
            return out[crew] ? sledges[crew] : places[pack.crews.first[crew]];
        }

        int appetite(Pack pack, int crew, int atStep) {
            return pack.eat.valueWithin(MOST_EATEN, pack.crews.second[crew], atStep, out[crew] ? 1 : 0);
        }

        int biscuitOfAll(Pack pack) {
            int all = 0;
            for (int i = 0; i < pack.crews.size; i++) {
                all += biscuit[i];
            }
            return all;
        }

        boolean hasHungryCrew(Pack pack) {
            for (int i = 0; i < pack.crews.size; i++) {
                if (biscuit[i] == 0) {
                    return true;
                }
            }
            return false;
        }

        /** A STEP; how much biscuit was eaten in it. */
        int passStep(Pack pack) {
            int eaten = 0;
            for (int i = 0; i < pack.crews.size; i++) {
                hauled[i] = false;
                int meal = Math.min(biscuit[i], appetite(pack, i, step));
                biscuit[i] -= meal;
                eaten += meal;
                if (out[i]) {
                    sledges[i] = pack.next[sledges[i]];
                }
            }
            for (int i = 0; i < pack.things.size; i++) {
                places[i] = pack.next[places[i]];
            }
            step++;
            return eaten;
        }

        boolean haulSledge(Pack pack, int crew, int place) {
            int from = sledgePlace(pack, crew);
            if (hauled[crew] || place == from || !has(pack.hauledFrom(bit(from), step), place)) {
                return false;
            }
            out[crew] = true;
            hauled[crew] = true;
            sledges[crew] = place;
            return true;
        }

        int lendBiscuit(Pack pack, int crew, int much) {
            int other = 1 - crew;
            if (!pack.crews.holds(other) || !out[crew] || biscuit[crew] == 0
                    || sledges[crew] != places[pack.crews.first[other]]) {
                return NONE;
            }
            int lent = Math.min(much, biscuit[crew]);
            biscuit[crew] -= lent;
            biscuit[other] += lent;
            debts[crew] += lent;
            debts[other] -= lent;
            return lent;
        }

        boolean bringIn(Pack pack, int crew) {
            if (!out[crew] || sledges[crew] != places[pack.crews.first[crew]]) {
                return false;
            }
            out[crew] = false;
            return true;
        }

        /** A DRAW for each bear, which may go one PLACE by it; how the draws stand then. */
        long strayBears(Pack pack, long draws) {
            long g = draws;
            for (int i = 0; i < pack.things.size; i++) {
                if (pack.things.first[i] == KIND_BEAR) {
                    g = (g * 1103515245L + 12345L) % 2147483648L;
                    int draw = (int) (g / 65536L % 10L);
                    if (draw < FLOW_STILL) {
                        places[i] = pack.neighbour(places[i], draw);
                    }
                }
            }
            return g;
        }

        int bearVisits(Pack pack) {
            int visits = 0;
            for (int i = 0; i < pack.things.size; i++) {
                if (pack.things.first[i] == KIND_BEAR && isInhabited(pack, places[i])) {
                    visits++;
                }
            }
            return visits;
        }

        private boolean isInhabited(Pack pack, int place) {
            for (int i = 0; i < pack.things.size; i++) {
                int kind = pack.things.first[i];
                if ((kind == KIND_SHIP || kind == KIND_HUT) && places[i] == place) {
                    return true;
                }
            }
            return false;
        }
    }

    /** How all stood ahead of each of the last things done by hand, in a ring. */
    private static final class Past {
        private final Stand[] ring = new Stand[UNDOS];
        private int oldest;
        int size;

        Past() {
            for (int i = 0; i < UNDOS; i++) {
                ring[i] = new Stand();
            }
        }

        void clear() {
            size = 0;
            oldest = 0;
        }

        void keep(Stand ahead) {
            ring[(oldest + size) % UNDOS].take(ahead);
            if (size < UNDOS) {
                size++;
            } else {
                oldest = (oldest + 1) % UNDOS;
            }
        }

        boolean giveBack(Stand to) {
            if (size == 0) {
                return false;
            }
            size--;
            to.take(ring[(oldest + size) % UNDOS]);
            return true;
        }
    }

    /** What is SEEN of the hut, each at a step counted from the begin. */
    private static final class Sights {
        /** From the north west on, row by row, by where the hut lies from the thing. */
        private static final int[] ROSE = {8, 1, 2, 7, 0, 3, 6, 5, 4};

        int size;
        private final int[] things = new int[SIGHTS];
        private final int[] steps = new int[SIGHTS];
        private final int[] bearings = new int[SIGHTS];
        private final int[] alike = new int[BEARINGS];

        void take(Sights other) {
            size = other.size;
            for (int i = 0; i < SIGHTS; i++) {
                things[i] = other.things[i];
                steps[i] = other.steps[i];
                bearings[i] = other.bearings[i];
            }
        }

        boolean note(int thing, int step, int bearing) {
            if (size >= SIGHTS) {
                return false;
            }
            things[size] = thing;
            steps[size] = step;
            bearings[size] = bearing;
            size++;
            return true;
        }

        /** What is SEEN alone rules a PLACE out: ahead of the first sight the hut may have been anywhere. */
        long fitting(Pack pack, int now) {
            int since = firstStep(now);
            long fit = 0;
            for (int place = 0; place < PLACES; place++) {
                if (has(pack.gridPlaces(), place) && agrees(pack, place, since)) {
                    fit |= bit(pack.placeAfter(place, now - since));
                }
            }
            return fit;
        }

        /** The step of the first sight, or now if that is sooner. */
        private int firstStep(int now) {
            int first = now;
            for (int i = 0; i < size; i++) {
                first = Math.min(first, steps[i]);
            }
            return first;
        }

        /** Whether a hut that was at a PLACE at a step, no later than any sight, was where each tells. */
        private boolean agrees(Pack pack, int place, int since) {
            for (int i = 0; i < size; i++) {
                int from = pack.placeAfter(pack.things.second[things[i]], steps[i]);
                if (bearing(from, pack.placeAfter(place, steps[i] - since)) != bearings[i]) {
                    return false;
                }
            }
            return true;
        }

        int mostTelling(Pack pack, Stand stand) {
            long fit = fitting(pack, stand.step);
            int least = Long.bitCount(fit);
            int best = NONE;
            for (int thing = 0; thing < pack.things.size; thing++) {
                for (int k = 0; k < TELLING_STEPS; k++) {
                    int most = mostAlike(pack, fit, pack.placeAfter(stand.places[thing], k), k);
                    if (most < least) {
                        least = most;
                        best = thing * TELLING_STEPS + k;
                    }
                }
            }
            return best;
        }

        private int mostAlike(Pack pack, long fit, int from, int k) {
            int most = 0;
            for (int i = 0; i < BEARINGS; i++) {
                alike[i] = 0;
            }
            for (int place = 0; place < PLACES; place++) {
                if (has(fit, place)) {
                    int bearing = bearing(from, pack.placeAfter(place, k));
                    alike[bearing]++;
                    most = Math.max(most, alike[bearing]);
                }
            }
            return most;
        }

        private static int bearing(int from, int to) {
            int across = Integer.compare(overOf(to), overOf(from));
            int along = Integer.compare(downOf(to), downOf(from));
            return ROSE[3 * (along + 1) + across + 1];
        }
    }

    /** What is reckoned of told numbers alone: gaps, lost days, lamp signs, loads. */
    private static final class Reckoner {
        static final int SHUT = 3;
        private static final int GAP_STATES = 4;
        private static final int SURE = 1000000;
        private static final int ENDLESS = 1000000000;
        private static final int MOST_LOOK = 99;
        private static final int LOAD_STEPS = 9 * LOADS;

        int firstLook;
        int lampTotal;
        int firstLoad;
        private final int[] chances = new int[(GAPS + 1) * GAP_STATES * (MOST_DAYS + 1)];
        private final int[] prices = new int[LONGEST_ROW + 1];
        private final int[][] costs = new int[LONGEST_ROW + 1][LONGEST_ROW + 1];
        private final int[] order = new int[SIGNS];
        private final int[][] leaves = new int[SIGNS + 1][SIGNS];
        private final int[] lampRows = new int[SIGNS];
        private final int[] holding = new int[LOAD_STEPS];
        private final int[] worths = new int[1 << LOADS];

        private static int gapIndex(int gap, int state, int days) {
            return (gap * GAP_STATES + state) * (MOST_DAYS + 1) + days;
        }

        /** The greatest chance ahead of a day; state: how wide it is, or SHUT. */
        int gapChance(int gap, int state, int days) {
            return chances[gapIndex(gap, state, days)];
        }

        int goingChance(Rows gaps, int gap, int wide, int days) {
            int danger = Math.max(0, gaps.second[gap] - 2 * wide);
            return (10 - danger) * gapChance(gap + 1, SHUT, days) / 10;
        }

        private int openChance(Rows gaps, int gap, int wide, int days) {
            return Math.max(goingChance(gaps, gap, wide, days), gapChance(gap, wide, days));
        }

        void fillGaps(Rows gaps, int most) {
            for (int state = 0; state < GAP_STATES; state++) {
                for (int days = 0; days <= most; days++) {
                    chances[gapIndex(gaps.size, state, days)] = SURE;
                }
            }
            for (int gap = gaps.size - 1; gap >= 0; gap--) {
                for (int state = 0; state < GAP_STATES; state++) {
                    chances[gapIndex(gap, state, 0)] = 0;
                }
                for (int days = 1; days <= most; days++) {
                    fillGapDay(gaps, gap, days);
                }
            }
        }

        private void fillGapDay(Rows gaps, int gap, int days) {
            int behind = days - 1;
            int shut = gapChance(gap, SHUT, behind);
            int opens = gaps.first[gap];
            chances[gapIndex(gap, SHUT, days)] =
                    (opens * openChance(gaps, gap, 0, behind) + (10 - opens) * shut) / 10;
            for (int wide = 0; wide <= WIDEST; wide++) {
                int wider = Math.min(wide + 1, WIDEST);
                chances[gapIndex(gap, wide, days)] =
                        (2 * shut + 8 * openChance(gaps, gap, wider, behind)) / 10;
            }
        }

        int lookCost(int from, int to) {
            return costs[from][to];
        }

        void fillLooks(Law look, int days) {
            firstLook = NONE;
            for (int day = 1; day <= days; day++) {
                prices[day] = look.valueWithin(MOST_LOOK, 0, day, 0);
                costs[day][day] = 0;
            }
            for (int longer = 1; longer < days; longer++) {
                for (int from = 1; from + longer <= days; from++) {
                    firstLook = fillLook(from, from + longer);
                }
            }
        }

        /** The least at worst for the days from one to another; the first day to look at. */
        private int fillLook(int from, int to) {
            int least = ENDLESS;
            int first = NONE;
            for (int day = from; day < to; day++) {
                int cost = prices[day] + Math.max(costs[from][day], costs[day + 1][to]);
                if (cost < least) {
                    least = cost;
                    first = day;
                }
            }
            costs[from][to] = least;
            return first;
        }

        int lampRow(int sign, int size) {
            for (int i = 0; i < size; i++) {
                if (order[i] == sign) {
                    return lampRows[i];
                }
            }
            return NO_SUCH;
        }

        void findLampRows(Rows signs) {
            orderSigns(signs);
            lampTotal = ENDLESS;
            // A sign alone needs a blink, though none begins with another one.
            leaves[1][0] = signs.size == 1 ? 1 : 0;
            growLeaves(signs, 1);
        }

        private void orderSigns(Rows signs) {
            for (int i = 0; i < signs.size; i++) {
                int at = i;
                while (at > 0 && signs.first[order[at - 1]] < signs.first[i]) {
                    order[at] = order[at - 1];
                    at--;
                }
                order[at] = i;
            }
        }

        /** In the best rows none can be made shorter, so each end is parted into a short and a long one. */
        private void growLeaves(Rows signs, int size) {
            if (size >= signs.size) {
                weighLeaves(signs, leaves[size]);
                return;
            }
            for (int i = 0; i < size; i++) {
                partLeaf(size, i);
                growLeaves(signs, size + 1);
            }
        }

        private void partLeaf(int size, int parted) {
            int[] from = leaves[size];
            int[] to = leaves[size + 1];
            int at = 0;
            for (int i = 0; i < size; i++) {
                if (i != parted) {
                    to[at] = from[i];
                    at++;
                }
            }
            insertLeaf(to, at, from[parted] + 1);
            insertLeaf(to, at + 1, from[parted] + 2);
        }

        private static void insertLeaf(int[] row, int size, int leaf) {
            int at = size;
            while (at > 0 && row[at - 1] > leaf) {
                row[at] = row[at - 1];
                at--;
            }
            row[at] = leaf;
        }

        private void weighLeaves(Rows signs, int[] row) {
            int total = 0;
            for (int i = 0; i < signs.size; i++) {
                total += signs.first[order[i]] * row[i];
            }
            if (total < lampTotal || total == lampTotal && isShorter(row, signs.size)) {
                lampTotal = total;
                for (int i = 0; i < signs.size; i++) {
                    lampRows[i] = row[i];
                }
            }
        }

        private boolean isShorter(int[] row, int size) {
            for (int i = 0; i < size; i++) {
                if (row[i] != lampRows[i]) {
                    return row[i] < lampRows[i];
                }
            }
            return false;
        }

        /** The greatest mean worth of what is left, in thousandths, when the loads of a set are out. */
        int loadWorth(int carried) {
            return worths[carried];
        }

        void fillLoads(Pack pack) {
            for (int step = 0; step < LOAD_STEPS; step++) {
                holding[step] = 10 - pack.crack.valueWithin(10, 0, step, 0);
            }
            for (int carried = (1 << pack.loads.size) - 1; carried >= 0; carried--) {
                fillLoad(pack.loads, carried);
            }
        }

        private void fillLoad(Rows loads, int carried) {
            int start = 0;
            for (int i = 0; i < loads.size; i++) {
                start += (carried >> i & 1) != 0 ? loads.second[i] : 0;
            }
            firstLoad = NONE;
            worths[carried] = 0;
            for (int i = 0; i < loads.size; i++) {
                if ((carried >> i & 1) == 0) {
                    int mean = loadMean(loads, i, worths[carried | 1 << i], start);
                    if (firstLoad == NONE || mean > worths[carried]) {
                        firstLoad = i;
                        worths[carried] = mean;
                    }
                }
            }
        }

        private int loadMean(Rows loads, int load, int behind, int start) {
            long chance = 1;
            long all = 1;
            for (int i = 0; i < loads.second[load] && start + i < LOAD_STEPS; i++) {
                chance *= holding[start + i];
                all *= 10;
            }
            return (int) ((loads.first[load] * 1000L + behind) * chance / all);
        }
    }
}

import java.util.Arrays;
import java.util.NoSuchElementException;

/** A hill, its goats and what they testify: see README.md. */
public final class GoatCourt {
    /** There is none; refused. */
    public static final int NONE = -1;

    /** The answer of calls that aren't refused, but have nothing to name. */
    private static final int NOTHING = -2;

    private static final int TAPE_ROOM = 1200;
    private static final int HOURS = 12;
    private static final int PLANTS = 4;
    private static final int PLACES = 8;
    private static final int PATHS = 14;
    private static final int PEOPLE = 4;
    private static final int STORIES = 3;
    private static final int CASES = 81;
    private static final int GOATS = 6;
    private static final int FEARS = 8;
    private static final int CLUES = 10;
    private static final int FACTS = 8;
    private static final int RULES = 8;
    private static final int BODY = 3;
    private static final int STEPS = 8;
    private static final int COURTS = 6;
    private static final int PUT_ROOM = 4;

    private static final int FINE = 0;
    private static final int NO_SUCH = 1;
    private static final int NUMBER = 2;
    private static final int NO_ROOM = 3;
    private static final int FAULTY = 4;
    private static final int NOT_SO = 5;
    private static final int EMPTY = 6;

    private final Tape tape;
    private final Reader reader;
    private final Acts acts;
    private final Evidence evidence;
    private final Lure lure;
    private Hill told;
    private Hill spare;
    private int latestFault;
    private int troubled;

    public GoatCourt() {
        tape = new Tape();
        acts = new Acts();
        told = new Hill();
        spare = new Hill();
        reader = new Reader(tape, spare);
        evidence = new Evidence(acts, told);
        lure = new Lure(acts, told);
    }

    // ---- the hill

    public int feed(int a, int b, int c, int d, int e) {
        if (tape.count + 20 > TAPE_ROOM) {
            return NONE;
        }
        tape.add(a);
        tape.add(b);
        tape.add(c);
        tape.add(d);
        tape.add(e);
        return tape.count;
    }

    public int hill(int n) {
        if (n < 0 || n > tape.count) {
            return refuse(NUMBER);
        }
        latestFault = reader.read(spare, n);
        tape.count = 0;
        if (latestFault != 0) {
            return refuse(FAULTY);
        }
        Hill old = told;
        told = spare;
        spare = old;
        acts.clear();
        evidence.use(told);
        lure.use(told);
        return answer(told.cases);
    }

    public int fault() {
        return latestFault;
    }

    public int where() {
        return troubled == FAULTY ? reader.place : NONE;
    }

    // ---- as told

    public int plants(int place, int plant) {
        if (!isPlace(place) || !isPlant(plant)) {
            return refuse(NO_SUCH);
        }
        return answer(countOf(told.grows[place], plant));
    }

    public int near(int place) {
        return isPlace(place) ? answer(told.nearby[place]) : refuse(NO_SUCH);
    }

    public int goat(int g, int what) {
        if (!isGoat(g)) {
            return refuse(NO_SUCH);
        }
        Herd herd = told.herd;
        switch (what) {
            case 0:
                return answer(herd.kind[g]);
            case 1:
                return answer(herd.mother[g]);
            case 2:
                return answer(herd.start[g]);
            case 3:
                return answer(herd.trust[g]);
            case 4:
                return answer(herd.fears[g]);
            case 5:
                return answer(Integer.bitCount(herd.cluesOf(1 << g)));
            case 6:
                return answer(bit(acts.now[Acts.HEARD], g));
            default:
                return refuse(NO_SUCH);
        }
    }

    public int likes(int g, int i) {
        if (!isGoat(g) || !within(i, told.herd.orderSize[g])) {
            return refuse(NO_SUCH);
        }
        return answer(told.herd.order[g * PLANTS + i]);
    }

    public int clue(int c, int what) {
        Herd herd = told.herd;
        if (!within(c, herd.clues)) {
            return refuse(NO_SUCH);
        }
        switch (what) {
            case 0:
                return answer(herd.clueSort[c]);
            case 1:
                return answer(herd.clueGoat[c]);
            case 2:
                return answer(herd.cluePlace[c]);
            case 3:
                return answer(herd.clueWhat[c]);
            default:
                return refuse(NO_SUCH);
        }
    }

    public int story(int p, int i, int hour) {
        if (!isPerson(p) || !within(i, told.stories[p])) {
            return refuse(NO_SUCH);
        }
        return isHour(hour) ? answer(told.toldPlace(p, i, hour)) : refuse(NUMBER);
    }

    public int stories(int p) {
        return isPerson(p) ? answer(told.stories[p]) : refuse(NO_SUCH);
    }

    // ---- a day

    public int caseOf(int c, int p) {
        return isCase(c) && isPerson(p) ? answer(told.storyIn(c, p)) : refuse(NO_SUCH);
    }

    public int at(int c, int g, int hour) {
        if (!isCase(c) || !isGoat(g)) {
            return refuse(NO_SUCH);
        }
        return isHour(hour) ? answer(evidence.dayOf(c).spots[g * HOURS + hour]) : refuse(NUMBER);
    }

    public int ate(int c, int g, int plant) {
        if (!isCase(c) || !isGoat(g) || !isPlant(plant)) {
            return refuse(NO_SUCH);
        }
        return answer(evidence.dayOf(c).eaten[g * PLANTS + plant]);
    }

    public int drops(int c, int g, int plant, int place) {
        if (!isCase(c) || !isGoat(g) || !isPlant(plant) || !isPlace(place)) {
            return refuse(NO_SUCH);
        }
        return answer(evidence.dayOf(c).dropped[(g * PLANTS + plant) * PLACES + place]);
    }

    public int flees(int c, int g) {
        return isCase(c) && isGoat(g) ? answer(evidence.dayOf(c).fled[g]) : refuse(NO_SUCH);
    }

    public int left(int c, int place, int plant) {
        if (!isCase(c) || !isPlace(place) || !isPlant(plant)) {
            return refuse(NO_SUCH);
        }
        return answer(countOf(evidence.dayOf(c).state[place], plant));
    }

    public int met(int c, int g, int p) {
        if (!isCase(c) || !isGoat(g) || !isPerson(p)) {
            return refuse(NO_SUCH);
        }
        Day day = evidence.dayOf(c);
        int hours = 0;
        for (int h = 0; h < told.hours; h++) {
            if (day.spots[g * HOURS + h] == told.placeIn(c, p, h)) {
                hours++;
            }
        }
        return answer(hours);
    }

    public int isTrue(int c, int clue) {
        if (!isCase(c) || !within(clue, told.herd.clues)) {
            return refuse(NO_SUCH);
        }
        return answer(evidence.dayOf(c).shows(clue) ? 1 : 0);
    }

    // ---- what fits

    public int fits() {
        return isHill() ? answer(evidence.freshened().howManyFit()) : refuse(NO_SUCH);
    }

    public int fit(int i) {
        int c = evidence.freshened().fitting(i);
        return c >= 0 ? answer(c) : refuse(NO_SUCH);
    }

    public int could(int p, int hour) {
        if (!isPerson(p)) {
            return refuse(NO_SUCH);
        }
        return isHour(hour) ? answer(evidence.freshened().somewhere(p, hour)) : refuse(NUMBER);
    }

    public int surely(int p, int hour) {
        if (!isPerson(p)) {
            return refuse(NO_SUCH);
        }
        return isHour(hour) ? answer(evidence.freshened().everywhere(p, hour)) : refuse(NUMBER);
    }

    public int lies(int p) {
        return isPerson(p) ? answer(evidence.freshened().untold(p)) : refuse(NO_SUCH);
    }

    public int falseOnes() {
        return isHill() ? answer(evidence.freshened().fewestFalse()) : refuse(NO_SUCH);
    }

    public int odds(int c) {
        return isCase(c) ? answer(evidence.freshened().oddsOf(c)) : refuse(NO_SUCH);
    }

    public int likeliest() {
        return isHill() ? answer(evidence.freshened().greatestOdds()) : refuse(NO_SUCH);
    }

    public int proved(int p, int place, int hour) {
        if (!isPerson(p) || !isPlace(place)) {
            return refuse(NO_SUCH);
        }
        return isHour(hour) ? answer(evidence.freshened().fewestProving(p, place, hour)) : refuse(NUMBER);
    }

    public int ask() {
        if (!isHill()) {
            return refuse(NO_SUCH);
        }
        return evidence.freshened().question() ? answer(evidence.askedGoat * 100 + evidence.askedHour) : refuse(EMPTY);
    }

    public int askMost() {
        if (!isHill()) {
            return refuse(NO_SUCH);
        }
        return evidence.freshened().question() ? answer(evidence.askedMost) : refuse(EMPTY);
    }

    // ---- led and scared

    public int led(int c, int g, int place, int hour) {
        int why = whyNoQuest(c, g, place, hour);
        return why == FINE ? answer(lure.fewest(c, g, place, hour, Acts.SALTS)) : refuse(why);
    }

    public int ledAt(int c, int g, int place, int hour, int i) {
        int why = whyNoQuest(c, g, place, hour);
        if (why != FINE) {
            return refuse(why);
        }
        int salts = lure.fewest(c, g, place, hour, Acts.SALTS);
        if (!within(i, salts)) {
            return refuse(NO_SUCH);
        }
        return answer(spotCode(i == 0 ? lure.firstSpot : lure.secondSpot));
    }

    public int scared(int c, int g, int place, int hour) {
        int why = whyNoQuest(c, g, place, hour);
        return why == FINE ? answer(lure.fewest(c, g, place, hour, Acts.DOGS)) : refuse(why);
    }

    // ---- the law

    public int follows(int fact) {
        return isFact(fact) ? answer(bit(told.law.known(told.law.holding, NONE), fact)) : refuse(NO_SUCH);
    }

    public int step() {
        if (!isHill()) {
            return refuse(NO_SUCH);
        }
        return told.law.steps > 0 ? answer(told.law.firstWrongStep()) : refuse(EMPTY);
    }

    public int needs(int fact) {
        return isFact(fact) ? answer(told.law.neededRules(fact)) : refuse(NO_SUCH);
    }

    public int enough(int fact) {
        return isFact(fact) ? answer(told.law.fewestFacts(fact)) : refuse(NO_SUCH);
    }

    // ---- cheese and courts

    public int cheese(int c) {
        if (!isCase(c)) {
            return refuse(NO_SUCH);
        }
        return told.hasCheese ? answer(evidence.dayOf(c).countMilkers()) : refuse(EMPTY);
    }

    public int cheeseOf(int c) {
        if (!isCase(c)) {
            return refuse(NO_SUCH);
        }
        return told.hasCheese ? answer(evidence.dayOf(c).leastMilkers()) : refuse(EMPTY);
    }

    public long appeals() {
        if (!isHill()) {
            return refuse(NO_SUCH);
        }
        troubled = FINE;
        return told.courts.leastCosts();
    }

    public int appealAt(int i) {
        return within(i, told.courts.count) ? answer(told.courts.inBestOrder(i)) : refuse(NO_SUCH);
    }

    // ---- acts

    public boolean salt(int place, int hour, boolean is) {
        return done(putOrTake(Acts.SALTS, place, hour, is));
    }

    public boolean dog(int place, int hour, boolean is) {
        return done(putOrTake(Acts.DOGS, place, hour, is));
    }

    public boolean hedge(int path, boolean is) {
        return done(within(path, told.paths) ? acts.change(Acts.HEDGES, path, is) : NO_SUCH);
    }

    public boolean hear(int g, boolean is) {
        return done(isGoat(g) ? acts.change(Acts.HEARD, g, is) : NO_SUCH);
    }

    public boolean undo() {
        return done(acts.takeBack() ? FINE : EMPTY);
    }

    public int mark() {
        if (!isHill()) {
            return refuse(NO_SUCH);
        }
        int number = acts.keep();
        return number >= 0 ? answer(number) : refuse(NO_ROOM);
    }

    public boolean back(int mark) {
        return done(acts.restore(mark) ? FINE : NO_SUCH);
    }

    // ---- what is told

    public int put(int i, boolean dogs) throws NoSuchElementException {
        int spot = acts.spot(dogs ? Acts.DOGS : Acts.SALTS, i);
        if (spot < 0) {
            throw new NoSuchElementException();
        }
        return spotCode(spot);
    }

    public int size(int what) {
        switch (what) {
            case 0:
                return told.hours;
            case 1:
                return told.plants;
            case 2:
                return told.places;
            case 3:
                return told.paths;
            case 4:
                return told.people;
            case 5:
                return told.herd.count;
            case 6:
                return told.herd.clues;
            case 7:
                return told.law.facts;
            case 8:
                return told.law.rules;
            case 9:
                return told.law.steps;
            case 10:
                return told.courts.count;
            case 11:
                return told.cases;
            case 12:
                return acts.undoable;
            case 13:
                return acts.marks;
            case 14:
                return tape.count;
            default:
                return NONE;
        }
    }

    public int trouble() {
        return troubled;
    }

    // ---- what the calls share

    private int answer(int what) {
        troubled = FINE;
        return what;
    }

    private int refuse(int why) {
        troubled = why;
        return NONE;
    }

    private boolean done(int why) {
        troubled = why;
        return why == FINE;
    }

    private boolean isHill() {
        return told.cases > 0;
    }

    private boolean isPlace(int place) {
        return within(place, told.places);
    }

    private boolean isPlant(int plant) {
        return within(plant, told.plants);
    }

    private boolean isPerson(int p) {
        return within(p, told.people);
    }

    private boolean isGoat(int g) {
        return within(g, told.herd.count);
    }

    private boolean isHour(int hour) {
        return within(hour, told.hours);
    }

    private boolean isCase(int c) {
        return within(c, told.cases);
    }

    private boolean isFact(int fact) {
        return within(fact, told.law.facts);
    }

    private int whyNoQuest(int c, int g, int place, int hour) {
        if (!isCase(c) || !isGoat(g) || !isPlace(place)) {
            return NO_SUCH;
        }
        return isHour(hour) ? FINE : NUMBER;
    }

    private int putOrTake(int sort, int place, int hour, boolean is) {
        if (!isPlace(place)) {
            return NO_SUCH;
        }
        if (!isHour(hour)) {
            return NUMBER;
        }
        // what is so already is told ahead of what has no room
        if (is && bit(acts.now[sort + hour], place) == 0 && acts.countPut(sort) >= PUT_ROOM) {
            return NO_ROOM;
        }
        return acts.change(sort + hour, place, is);
    }

    private static boolean within(int i, int count) {
        return i >= 0 && i < count;
    }

    private static int bit(int bits, int i) {
        return bits >> i & 1;
    }

    /** How many of a plant, where four bits stand for each. */
    private static int countOf(int packed, int plant) {
        return packed >> 4 * plant & 15;
    }

    /** A spot counts PLACES by twelve hours, whatever hours the HILL has, so that spots are in order. */
    private static int spotCode(int spot) {
        return spot / HOURS * 100 + spot % HOURS;
    }

    /** WORDS that no NAME may be; those with room begin LINES. */
    private enum Reserved {
        HILL("hill", 0, 1),
        PLACE("place", 1, PLACES),
        PATH("path", 2, PATHS),
        PERSON("person", 3, PEOPLE),
        STORY("story", 4, TAPE_ROOM),
        GOAT("goat", 5, GOATS),
        FEAR("fears", 6, FEARS),
        FOUND("found", 7, CLUES),
        SEEN("seen", 7, CLUES),
        SHIED("shied", 7, CLUES),
        FACT("fact", 8, FACTS),
        HOLDS("holds", 9, TAPE_ROOM),
        RULE("rule", 10, RULES),
        PROOF("proof", 11, 1),
        COURT("court", 12, COURTS),
        CHEESE("cheese", 13, 1),
        IF("if", 14, 0),
        OTHER("", 14, 0);

        final String word;
        final int group;
        final int room;

        Reserved(String word, int group, int room) {
            this.word = word;
            this.group = group;
            this.room = room;
        }
    }

    private static final Reserved[] RESERVED = Reserved.values();

    /** THE TAPE, and the TOKEN of it that is looked at. */
    private static final class Tape {
        static final int END = 0;
        static final int WORD = 1;
        static final int WHOLE = 2;
        static final int SEMICOLON = 3;
        static final int COMMA = 4;
        static final int BAD = 5;
        static final int LETTERS = 8;
        static final int DIGITS = 3;

        final byte[] bytes = new byte[TAPE_ROOM];
        int count;
        int end;
        int next;
        int kind;
        int start;
        int letters;
        long code;
        int whole;

        void add(int four) {
            for (int shift = 24; shift >= 0; shift -= 8) {
                if (count < TAPE_ROOM) {
                    bytes[count] = (byte) (four >>> shift);
                    count++;
                }
            }
        }

        void rewind(int n) {
            end = Math.min(n, count);
            next = 0;
            advance();
        }

        void advance() {
            while (next < end && bytes[next] == ' ') {
                next++;
            }
            start = next;
            if (next >= end) {
                kind = END;
                return;
            }
            int sign = bytes[next];
            if (isLetter(sign)) {
                readWord();
            } else if (isDigit(sign)) {
                readWhole();
            } else {
                kind = sign == ';' ? SEMICOLON : sign == ',' ? COMMA : BAD;
                next++;
            }
        }

        private void readWord() {
            code = 0;
            while (next < end && isLetter(bytes[next])) {
                code = code * 32 + bytes[next] - 'a' + 1;
                next++;
            }
            letters = next - start;
            kind = letters <= LETTERS ? WORD : BAD;
        }

        private void readWhole() {
            whole = 0;
            while (next < end && isDigit(bytes[next])) {
                whole = whole * 10 + bytes[next] - '0';
                next++;
            }
            kind = next - start <= DIGITS ? WHOLE : BAD;
        }

        boolean spells(String word) {
            return kind == WORD && code == codeOf(word);
        }

        /** WORDS of up to eight letters have codes of their own. */
        static long codeOf(String word) {
            long code = 0;
            for (int i = 0; i < word.length(); i++) {
                code = code * 32 + word.charAt(i) - 'a' + 1;
            }
            return code;
        }

        /** The plant that a letter of the WORD names. */
        int plantAt(int i) {
            return bytes[start + i] - 'a';
        }

        private static boolean isLetter(int sign) {
            return sign >= 'a' && sign <= 'z';
        }

        private static boolean isDigit(int sign) {
            return sign >= '0' && sign <= '9';
        }
    }

    /** Reads a HILL from THE TAPE up to its first FAULT. */
    private static final class Reader {
        static final int FORM = 1;
        static final int UNTOLD = 2;
        static final int AGAIN = 3;
        static final int BOUNDS = 4;
        static final int MANY = 5;
        static final int LACKS = 6;
        static final int NO_PLANT = 7;

        static final int A_PLACE = 0;
        static final int A_PERSON = 1;
        static final int A_GOAT = 2;
        static final int A_FACT = 3;
        static final int A_COURT = 4;
        static final int NAMES = PLACES + PEOPLE + GOATS + FACTS + COURTS;
        static final int GROUPS = 15;

        final Tape tape;
        final long[] names = new long[NAMES];
        final int[] nameSort = new int[NAMES];
        final int[] nameNumber = new int[NAMES];
        final int[] lines = new int[GROUPS];
        final int[] facts = new int[STEPS];
        final long[] reserved = new long[RESERVED.length];
        Hill into;
        int nameCount;
        long newName;
        int fault;
        int place;

        Reader(Tape tape, Hill into) {
            this.tape = tape;
            this.into = into;
            for (int i = 0; i < RESERVED.length; i++) {
                reserved[i] = Tape.codeOf(RESERVED[i].word);
            }
        }

        int read(Hill hill, int n) {
            into = hill;
            hill.clear();
            nameCount = 0;
            fault = 0;
            Arrays.fill(lines, 0);
            tape.rewind(n);
            boolean more = line();
            for (int i = 0; i < TAPE_ROOM && more; i++) {
                if (tape.kind == Tape.END) {
                    more = false;
                } else if (tape.kind == Tape.SEMICOLON) {
                    tape.advance();
                    more = line();
                } else {
                    more = fail(FORM);
                }
            }
            if (fault == 0 && hill.places == 0) {
                fail(LACKS);
            }
            if (fault == 0) {
                hill.countCases();
            }
            return fault;
        }

        private boolean line() {
            Reserved sort = reservedHere();
            if (sort.room == 0) {
                return fail(FORM);
            }
            if (sort != Reserved.HILL && lines[Reserved.HILL.group] == 0) {
                return fail(LACKS);
            }
            if (lines[sort.group] >= sort.room) {
                return fail(sort.room == 1 ? AGAIN : MANY);
            }
            lines[sort.group]++;
            tape.advance();
            switch (sort) {
                case HILL:
                    return hillLine();
                case PLACE:
                    return placeLine();
                case PATH:
                    return pathLine();
                case PERSON:
                    return personLine();
                case STORY:
                    return storyLine();
                case GOAT:
                    return goatLine();
                case FEAR:
                    return fearLine();
                case FOUND:
                    return foundLine();
                case SEEN:
                    return seenLine(Herd.SEEN);
                case SHIED:
                    return seenLine(Herd.SHIED);
                case FACT:
                    return factLine();
                case HOLDS:
                    return holdsLine();
                case RULE:
                    return ruleLine();
                case PROOF:
                    return proofLine();
                case COURT:
                    return courtLine();
                default:
                    return cheeseLine();
            }
        }

        private boolean hillLine() {
            if (!word("hours") || !wholeIn(2, HOURS)) {
                return false;
            }
            into.hours = tape.whole;
            tape.advance();
            if (!word("plants") || !wholeIn(1, PLANTS)) {
                return false;
            }
            into.plants = tape.whole;
            tape.advance();
            return true;
        }

        private boolean placeLine() {
            int number = into.places;
            if (number >= PLACES || !freshName()) {
                return false;
            }
            for (int plant = 0; plant < into.plants; plant++) {
                if (!partIn(plant, 9)) {
                    return false;
                }
                into.grows[number] |= tape.whole << 4 * plant;
                tape.advance();
            }
            into.places++;
            return tell(A_PLACE, number);
        }

        private boolean pathLine() {
            int from = named(A_PLACE);
            if (from < 0) {
                return false;
            }
            tape.advance();
            int to = named(A_PLACE);
            if (to < 0) {
                return false;
            }
            if (to == from || bit(into.nearby[from], to) == 1) {
                return fail(AGAIN);
            }
            into.addPath(from, to);
            tape.advance();
            return true;
        }

        private boolean personLine() {
            if (!freshName()) {
                return false;
            }
            into.people++;
            return tell(A_PERSON, into.people - 1);
        }

        private boolean storyLine() {
            int p = named(A_PERSON);
            if (p < 0) {
                return false;
            }
            if (into.stories[p] >= STORIES) {
                return fail(MANY);
            }
            tape.advance();
            for (int hour = 0; hour <= into.hours; hour++) {
                if (hour > 0) {
                    if (tape.kind != Tape.COMMA) {
                        break;
                    }
                    tape.advance();
                }
                int where = named(A_PLACE);
                if (where < 0) {
                    return false;
                }
                if (hour >= into.hours) {
                    return fail(MANY);
                }
                into.tellFrom(p, hour, where);
                tape.advance();
            }
            into.stories[p]++;
            return true;
        }

        private boolean goatLine() {
            Herd herd = into.herd;
            int g = herd.count;
            if (g >= GOATS || !freshName() || !kindOf(g) || !word("likes") || !orderOf(g) || !word("at")) {
                return false;
            }
            herd.start[g] = named(A_PLACE);
            if (herd.start[g] < 0) {
                return false;
            }
            tape.advance();
            if (!word("trust") || !wholeIn(1, 9)) {
                return false;
            }
            herd.trust[g] = tape.whole;
            tape.advance();
            herd.count++;
            return tell(A_GOAT, g);
        }

        private boolean kindOf(int g) {
            Herd herd = into.herd;
            herd.mother[g] = NOTHING;
            if (tape.spells("plain")) {
                herd.kind[g] = Herd.PLAIN;
            } else if (tape.spells("shy")) {
                herd.kind[g] = Herd.SHY;
            } else if (tape.spells("billy")) {
                herd.kind[g] = Herd.BILLY;
            } else if (tape.spells("kid")) {
                herd.kind[g] = Herd.KID;
                tape.advance();
                herd.mother[g] = named(A_GOAT);
                if (herd.mother[g] < 0) {
                    return false;
                }
            } else {
                return fail(FORM);
            }
            tape.advance();
            return true;
        }

        private boolean orderOf(int g) {
            if (tape.kind != Tape.WORD) {
                return fail(FORM);
            }
            int seen = 0;
            for (int i = 0; i < tape.letters; i++) {
                int plant = tape.plantAt(i);
                if (!within(plant, into.plants) || bit(seen, plant) == 1) {
                    return fail(NO_PLANT);
                }
                seen |= 1 << plant;
                into.herd.order[g * PLANTS + i] = plant;
            }
            into.herd.orderSize[g] = tape.letters;
            tape.advance();
            return true;
        }

        private boolean fearLine() {
            int g = named(A_GOAT);
            if (g < 0) {
                return false;
            }
            tape.advance();
            int p = named(A_PERSON);
            if (p < 0) {
                return false;
            }
            if (bit(into.herd.fears[g], p) == 1) {
                return fail(AGAIN);
            }
            into.herd.fears[g] |= 1 << p;
            tape.advance();
            return true;
        }

        private boolean foundLine() {
            int g = named(A_GOAT);
            if (g < 0) {
                return false;
            }
            tape.advance();
            if (tape.kind != Tape.WORD) {
                return fail(FORM);
            }
            int plant = tape.plantAt(0);
            if (tape.letters != 1 || !within(plant, into.plants)) {
                return fail(NO_PLANT);
            }
            tape.advance();
            int where = named(A_PLACE);
            if (where < 0) {
                return false;
            }
            tape.advance();
            into.herd.addClue(Herd.FOUND, g, where, plant);
            return true;
        }

        private boolean seenLine(int sort) {
            int g = named(A_GOAT);
            if (g < 0) {
                return false;
            }
            tape.advance();
            int where = named(A_PLACE);
            if (where < 0) {
                return false;
            }
            tape.advance();
            if (!wholeIn(0, into.hours - 1)) {
                return false;
            }
            into.herd.addClue(sort, g, where, tape.whole);
            tape.advance();
            return true;
        }

        private boolean factLine() {
            if (!freshName()) {
                return false;
            }
            into.law.facts++;
            return tell(A_FACT, into.law.facts - 1);
        }

        private boolean holdsLine() {
            int fact = named(A_FACT);
            if (fact < 0) {
                return false;
            }
            if (bit(into.law.holding, fact) == 1) {
                return fail(AGAIN);
            }
            into.law.holding |= 1 << fact;
            tape.advance();
            return true;
        }

        private boolean ruleLine() {
            int head = named(A_FACT);
            if (head < 0) {
                return false;
            }
            tape.advance();
            if (!word("if")) {
                return false;
            }
            int count = factList(BODY, true);
            if (count < 1) {
                return false;
            }
            into.law.addRule(head, facts, count);
            return true;
        }

        private boolean proofLine() {
            int count = factList(STEPS, false);
            if (count < 1) {
                return false;
            }
            into.law.setProof(facts, count);
            return true;
        }

        /** Reads FACTS parted by commas: how many, 0 with a FAULT. */
        private int factList(int most, boolean unlike) {
            int seen = 0;
            for (int i = 0; i <= most; i++) {
                if (i > 0) {
                    if (tape.kind != Tape.COMMA) {
                        return i;
                    }
                    tape.advance();
                }
                int fact = named(A_FACT);
                if (fact < 0) {
                    return 0;
                }
                if (unlike && bit(seen, fact) == 1) {
                    fail(AGAIN);
                    return 0;
                }
                if (i >= most) {
                    fail(MANY);
                    return 0;
                }
                seen |= 1 << fact;
                facts[i] = fact;
                tape.advance();
            }
            return 0;
        }

        private boolean courtLine() {
            Courts courts = into.courts;
            if (courts.count >= COURTS || !freshName() || !word("costs") || !wholeIn(0, 99)) {
                return false;
            }
            courts.costs[courts.count] = tape.whole;
            tape.advance();
            if (!word("wins") || !wholeIn(1, 9)) {
                return false;
            }
            courts.wins[courts.count] = tape.whole;
            tape.advance();
            courts.count++;
            return tell(A_COURT, courts.count - 1);
        }

        private boolean cheeseLine() {
            for (int plant = 0; plant < into.plants; plant++) {
                if (!partIn(plant, 99)) {
                    return false;
                }
                into.cheeses[plant] = tape.whole;
                tape.advance();
            }
            into.hasCheese = true;
            return true;
        }

        private boolean fail(int number) {
            fault = number;
            place = tape.start;
            return false;
        }

        private Reserved reservedHere() {
            for (int i = 0; i < RESERVED.length; i++) {
                if (tape.kind == Tape.WORD && tape.code == reserved[i]) {
                    return RESERVED[i];
                }
            }
            return Reserved.OTHER;
        }

        private boolean word(String due) {
            if (!tape.spells(due)) {
                return fail(FORM);
            }
            tape.advance();
            return true;
        }

        /** Whether the TOKEN is a WHOLE in bounds; it stays the TOKEN that is looked at. */
        private boolean wholeIn(int least, int most) {
            if (tape.kind != Tape.WHOLE) {
                return fail(FORM);
            }
            return tape.whole >= least && tape.whole <= most || fail(BOUNDS);
        }

        /** The i-th WHOLE of some that are parted by commas. */
        private boolean partIn(int i, int most) {
            if (i > 0) {
                if (tape.kind != Tape.COMMA) {
                    return fail(FORM);
                }
                tape.advance();
            }
            return wholeIn(0, most);
        }

        private int find() {
            for (int i = 0; i < nameCount; i++) {
                if (names[i] == tape.code) {
                    return i;
                }
            }
            return NONE;
        }

        private boolean freshName() {
            if (tape.kind != Tape.WORD || reservedHere() != Reserved.OTHER) {
                return fail(FORM);
            }
            if (find() >= 0) {
                return fail(AGAIN);
            }
            newName = tape.code;
            tape.advance();
            return true;
        }

        /** A NAME counts as told behind its LINE, so that no goat is its own mother. */
        private boolean tell(int sort, int number) {
            if (nameCount < NAMES) {
                names[nameCount] = newName;
                nameSort[nameCount] = sort;
                nameNumber[nameCount] = number;
                nameCount++;
            }
            return true;
        }

        /** The number of what the NAME names, or NONE with a FAULT; it stays the TOKEN that is looked at. */
        private int named(int sort) {
            if (tape.kind != Tape.WORD || reservedHere() != Reserved.OTHER) {
                fail(FORM);
                return NONE;
            }
            int i = find();
            if (i < 0 || nameSort[i] != sort) {
                fail(UNTOLD);
                return NONE;
            }
            return nameNumber[i];
        }
    }

    /** What a text tells of PLACES, paths, people and a cheese, with the herd, the law and the courts. */
    private static final class Hill {
        int hours;
        int plants;
        int places;
        int paths;
        int people;
        int cases;
        boolean hasCheese;
        final int[] grows = new int[PLACES];
        final int[] nearby = new int[PLACES];
        final int[] pathFrom = new int[PATHS];
        final int[] pathTo = new int[PATHS];
        final int[] stories = new int[PEOPLE];
        final int[] weights = new int[PEOPLE];
        final int[] tells = new int[PEOPLE * STORIES * HOURS];
        final int[] cheeses = new int[PLANTS];
        final Herd herd = new Herd();
        final Law law = new Law();
        final Courts courts = new Courts();

        void clear() {
            hours = 0;
            plants = 0;
            places = 0;
            paths = 0;
            people = 0;
            cases = 0;
            hasCheese = false;
            Arrays.fill(grows, 0);
            Arrays.fill(nearby, 0);
            Arrays.fill(stories, 0);
            herd.clear();
            law.clear();
            courts.count = 0;
        }

        void addPath(int from, int to) {
            if (paths < PATHS) {
                pathFrom[paths] = from;
                pathTo[paths] = to;
                paths++;
                nearby[from] |= 1 << to;
                nearby[to] |= 1 << from;
            }
        }

        /** In the story that is being told a person is somewhere from an hour on. */
        void tellFrom(int p, int hour, int place) {
            int row = (p * STORIES + stories[p]) * HOURS;
            for (int h = hour; h < HOURS; h++) {
                tells[row + h] = place;
            }
        }

        void countCases() {
            cases = 1;
            for (int p = people - 1; p >= 0; p--) {
                weights[p] = cases;
                if (stories[p] > 0) {
                    cases *= stories[p];
                }
            }
        }

        int toldPlace(int p, int i, int hour) {
            return tells[(p * STORIES + i) * HOURS + hour];
        }

        int storyIn(int c, int p) {
            if (stories[p] <= 0 || weights[p] <= 0) {
                return NOTHING;
            }
            return c / weights[p] % stories[p];
        }

        /** Where a person is; NONE is nowhere. */
        int placeIn(int c, int p, int hour) {
            int i = storyIn(c, p);
            return i < 0 ? NONE : toldPlace(p, i, hour);
        }
    }

    /** The goats and their CLUES. */
    private static final class Herd {
        static final int PLAIN = 0;
        static final int SHY = 1;
        static final int BILLY = 2;
        static final int KID = 3;
        static final int FOUND = 0;
        static final int SEEN = 1;
        static final int SHIED = 2;

        int count;
        int clues;
        final int[] kind = new int[GOATS];
        final int[] mother = new int[GOATS];
        final int[] start = new int[GOATS];
        final int[] trust = new int[GOATS];
        final int[] fears = new int[GOATS];
        final int[] order = new int[GOATS * PLANTS];
        final int[] orderSize = new int[GOATS];
        final int[] clueSort = new int[CLUES];
        final int[] clueGoat = new int[CLUES];
        final int[] cluePlace = new int[CLUES];
        final int[] clueWhat = new int[CLUES];

        void clear() {
            count = 0;
            clues = 0;
            Arrays.fill(fears, 0);
        }

        void addClue(int sort, int g, int place, int what) {
            if (clues < CLUES) {
                clueSort[clues] = sort;
                clueGoat[clues] = g;
                cluePlace[clues] = place;
                clueWhat[clues] = what;
                clues++;
            }
        }

        /** Whether a goat fears a person, told so or by its kind. */
        boolean minds(int g, int p) {
            return kind[g] == SHY || kind[g] != BILLY && bit(fears[g], p) == 1;
        }

        /** The CLUES of some goats, both as bits. */
        int cluesOf(int goats) {
            int bits = 0;
            for (int k = 0; k < clues; k++) {
                bits |= bit(goats, clueGoat[k]) << k;
            }
            return bits;
        }
    }

    /** FACTS, rules and a proof. */
    private static final class Law {
        int facts;
        int holding;
        int rules;
        int steps;
        final int[] heads = new int[RULES];
        final int[] bodies = new int[RULES];
        final int[] proof = new int[STEPS];

        void clear() {
            facts = 0;
            holding = 0;
            rules = 0;
            steps = 0;
        }

        void addRule(int head, int[] body, int count) {
            if (rules < RULES) {
                heads[rules] = head;
                bodies[rules] = 0;
                for (int i = 0; i < count; i++) {
                    bodies[rules] |= 1 << body[i];
                }
                rules++;
            }
        }

        void setProof(int[] told, int count) {
            steps = count;
            System.arraycopy(told, 0, proof, 0, count);
        }

        /** FACTS that follow from those that hold without one of the rules (NONE: with all). */
        int known(int held, int without) {
            int known = held;
            // each round but the last finds a FACT
            for (int round = 0; round < facts; round++) {
                for (int r = 0; r < rules; r++) {
                    if (r != without && (bodies[r] & ~known) == 0) {
                        known |= 1 << heads[r];
                    }
                }
            }
            return known;
        }

        int firstWrongStep() {
            int ahead = 0;
            for (int i = 0; i < steps; i++) {
                if (!isRight(proof[i], ahead)) {
                    return i;
                }
                ahead |= 1 << proof[i];
            }
            return NOTHING;
        }

        private boolean isRight(int fact, int ahead) {
            if (bit(holding, fact) == 1) {
                return true;
            }
            for (int r = 0; r < rules; r++) {
                if (heads[r] == fact && (bodies[r] & ~ahead) == 0) {
                    return true;
                }
            }
            return false;
        }

        int neededRules(int fact) {
            if (bit(known(holding, NONE), fact) == 0) {
                return NOTHING;
            }
            int needed = 0;
            for (int r = 0; r < rules; r++) {
                if (bit(known(holding, r), fact) == 0) {
                    needed |= 1 << r;
                }
            }
            return needed;
        }

        int fewestFacts(int fact) {
            int best = NOTHING;
            int fewest = FACTS + 1;
            for (int set = 0; set < 1 << facts; set++) {
                int size = Integer.bitCount(set);
                if ((set & ~holding) == 0 && size < fewest && bit(known(set, NONE), fact) == 1) {
                    best = set;
                    fewest = size;
                }
            }
            return best;
        }
    }

    /** Courts, and the order in which to go to them. */
    private static final class Courts {
        int count;
        final int[] costs = new int[COURTS];
        final int[] wins = new int[COURTS];
        final long[] least = new long[1 << COURTS];
        final int[] firstOf = new int[1 << COURTS];

        long leastCosts() {
            weigh();
            return least[(1 << count) - 1];
        }

        int inBestOrder(int i) {
            weigh();
            int set = (1 << count) - 1;
            for (int k = 0; k < i; k++) {
                set &= ~(1 << firstOf[set]);
            }
            return firstOf[set];
        }

        /**
         * For each set of courts still to go to: the least mean costs, in 10 to as many as there are,
         * and the first court of the best order. The rest of a best order is best itself, for no court
         * is won for certain.
         */
        private void weigh() {
            least[0] = 0;
            firstOf[0] = 0;
            for (int set = 1; set < 1 << count; set++) {
                long scale = 1;
                for (int k = Integer.bitCount(set); k > 0; k--) {
                    scale *= 10;
                }
                least[set] = NONE;
                for (int k = 0; k < count; k++) {
                    if (bit(set, k) == 1) {
                        long mean = costs[k] * scale + (10 - wins[k]) * least[set & ~(1 << k)];
                        if (least[set] == NONE || mean < least[set]) {
                            least[set] = mean;
                            firstOf[set] = k;
                        }
                    }
                }
            }
        }
    }

    /** SALT, DOGS, HEDGES and goats HEARD: a row of bits, an ACT turns one of them. */
    private static final class Acts {
        /** A cell for each hour, its bits are PLACES. */
        static final int SALTS = 0;
        static final int DOGS = HOURS;
        static final int HEDGES = 2 * HOURS;
        static final int HEARD = 2 * HOURS + 1;
        static final int CELLS = 2 * HOURS + 2;
        static final int KEPT = 16;
        static final int MARKS = 3;

        final int[] now = new int[CELLS];
        final int[] latest = new int[KEPT];
        final int[] marked = new int[MARKS * CELLS];
        int undoable;
        int marks;
        /** Goes up with all that can change a DAY. */
        int version;

        void clear() {
            Arrays.fill(now, 0);
            now[HEARD] = (1 << GOATS) - 1;
            undoable = 0;
            marks = 0;
            version++;
        }

        int change(int cell, int i, boolean is) {
            if (bit(now[cell], i) == (is ? 1 : 0)) {
                return NOT_SO;
            }
            if (undoable == KEPT) {
                System.arraycopy(latest, 1, latest, 0, KEPT - 1);
                undoable--;
            }
            latest[undoable] = cell * 16 + i;
            undoable++;
            turn(cell, i);
            return FINE;
        }

        boolean takeBack() {
            if (undoable <= 0) {
                return false;
            }
            undoable--;
            turn(latest[undoable] / 16, latest[undoable] % 16);
            return true;
        }

        private void turn(int cell, int i) {
            now[cell] ^= 1 << i;
            if (cell != HEARD) {
                version++;
            }
        }

        int keep() {
            if (marks >= MARKS) {
                return NONE;
            }
            System.arraycopy(now, 0, marked, marks * CELLS, CELLS);
            marks++;
            return marks - 1;
        }

        boolean restore(int mark) {
            if (!within(mark, marks)) {
                return false;
            }
            System.arraycopy(marked, mark * CELLS, now, 0, CELLS);
            undoable = 0;
            version++;
            return true;
        }

        int countPut(int sort) {
            int count = 0;
            for (int h = 0; h < HOURS; h++) {
                count += Integer.bitCount(now[sort + h]);
            }
            return count;
        }

        /** The i-th spot at which one is put; NONE. */
        int spot(int sort, int i) {
            int ahead = 0;
            for (int spot = 0; spot < PLACES * HOURS; spot++) {
                if (bit(now[sort + spot % HOURS], spot / HOURS) == 1) {
                    if (ahead == i) {
                        return spot;
                    }
                    ahead++;
                }
            }
            return NONE;
        }
    }

    /** A DAY of a CASE. */
    private static final class Day {
        /** What is left in the PLACES, then where the goats are. */
        static final int STATE = PLACES + GOATS;
        static final int WORTHLESS = 9;

        final Acts acts;
        Hill hill;
        final int[] state = new int[STATE];
        /** The cells of SALTS and DOGS, as Acts has them; more may be tried here. */
        final int[] lures = new int[2 * HOURS];
        final int[] open = new int[PLACES];
        final int[] peopleFeared = new int[GOATS * HOURS];
        final int[] spots = new int[GOATS * HOURS];
        /** By goat and hour: four times how many it ate, and the plant. */
        final int[] bites = new int[GOATS * HOURS];
        final int[] eaten = new int[GOATS * PLANTS];
        final int[] dropped = new int[GOATS * PLANTS * PLACES];
        final int[] fled = new int[GOATS];

        Day(Acts acts, Hill hill) {
            this.acts = acts;
            this.hill = hill;
        }

        void prepare(int c) {
            System.arraycopy(acts.now, 0, lures, 0, 2 * HOURS);
            Arrays.fill(eaten, 0);
            Arrays.fill(dropped, 0);
            Arrays.fill(fled, 0);
            System.arraycopy(hill.grows, 0, state, 0, PLACES);
            System.arraycopy(hill.herd.start, 0, state, PLACES, GOATS);
            openPaths();
            Arrays.fill(peopleFeared, 0);
            for (int p = 0; p < hill.people; p++) {
                int i = hill.storyIn(c, p);
                for (int g = 0; g < hill.herd.count; g++) {
                    if (i >= 0 && hill.herd.minds(g, p)) {
                        fearPerson(g, p, i);
                    }
                }
            }
        }

        private void fearPerson(int g, int p, int i) {
            for (int h = 0; h < hill.hours; h++) {
                peopleFeared[g * HOURS + h] |= 1 << hill.toldPlace(p, i, h);
            }
        }

        private void openPaths() {
            Arrays.fill(open, 0);
            for (int i = 0; i < hill.paths; i++) {
                if (bit(acts.now[Acts.HEDGES], i) == 0) {
                    open[hill.pathFrom[i]] |= 1 << hill.pathTo[i];
                    open[hill.pathTo[i]] |= 1 << hill.pathFrom[i];
                }
            }
        }

        void play(int from, int to) {
            for (int h = from; h <= to && h < HOURS; h++) {
                for (int g = 0; g < hill.herd.count; g++) {
                    turn(g, h);
                    drop(g, h);
                }
            }
        }

        private void turn(int g, int h) {
            int here = state[PLACES + g];
            int fear = peopleFeared[g * HOURS + h];
            if (hill.herd.kind[g] != Herd.BILLY) {
                fear |= lures[Acts.DOGS + h];
            }
            int reach = open[here] & ~fear;
            int to = here;
            bites[g * HOURS + h] = 0;
            if (followsMother(g, here)) {
                to = state[PLACES + hill.herd.mother[g]];
            } else if (bit(fear, here) == 1) {
                to = best(g, h, reach, here, WORTHLESS);
                fled[g] += to == here ? 0 : 1;
            } else if (bit(lures[h], here) == 0) {
                int salted = reach & lures[h];
                int worth = worth(g, h, here);
                if (salted != 0) {
                    to = best(g, h, salted, here, 0);
                } else if (worth < WORTHLESS) {
                    eat(g, h, here, hill.herd.order[g * PLANTS + worth - 1]);
                } else {
                    to = best(g, h, reach, here, WORTHLESS - 1);
                }
            }
            state[PLACES + g] = to;
            spots[g * HOURS + h] = to;
        }

        private boolean followsMother(int g, int here) {
            int mother = hill.herd.mother[g];
            return mother >= 0 && bit(open[here], state[PLACES + mother]) == 1;
        }

        /** The first of some PLACES of least WORTH, if that is at most so much; else where it is. */
        private int best(int g, int h, int reach, int here, int most) {
            int best = here;
            int least = most + 1;
            for (int place = 0; place < hill.places; place++) {
                if (bit(reach, place) == 1) {
                    int worth = worth(g, h, place);
                    if (worth < least) {
                        least = worth;
                        best = place;
                    }
                }
            }
            return best;
        }

        private int worth(int g, int h, int place) {
            // no calls in here: it is the deepest of all
            if ((lures[h] >> place & 1) == 1) {
                return 0;
            }
            for (int rank = 0; rank < hill.herd.orderSize[g]; rank++) {
                if ((state[place] >> 4 * hill.herd.order[g * PLANTS + rank] & 15) > 0) {
                    return 1 + rank;
                }
            }
            return WORTHLESS;
        }

        private void eat(int g, int h, int here, int plant) {
            int bite = hill.herd.kind[g] == Herd.BILLY && countOf(state[here], plant) > 1 ? 2 : 1;
            state[here] -= bite << 4 * plant;
            eaten[g * PLANTS + plant] += bite;
            bites[g * HOURS + h] = bite * 4 + plant;
        }

        private void drop(int g, int h) {
            if (h >= 2) {
                int bite = bites[g * HOURS + h - 2];
                dropped[(g * PLANTS + bite % 4) * PLACES + state[PLACES + g]] += bite / 4;
            }
        }

        boolean shows(int clue) {
            Herd herd = hill.herd;
            int g = herd.clueGoat[clue];
            int place = herd.cluePlace[clue];
            int what = herd.clueWhat[clue];
            if (herd.clueSort[clue] == Herd.FOUND) {
                return dropped[(g * PLANTS + what) * PLACES + place] > 0;
            }
            boolean there = spots[g * HOURS + what] == place;
            return there == (herd.clueSort[clue] == Herd.SEEN);
        }

        int countMilkers() {
            int count = 0;
            for (int goats = 0; goats < 1 << hill.herd.count; goats++) {
                if (giveCheese(goats)) {
                    count++;
                }
            }
            return count;
        }

        int leastMilkers() {
            for (int goats = 0; goats < 1 << hill.herd.count; goats++) {
                if (giveCheese(goats)) {
                    return goats;
                }
            }
            return NOTHING;
        }

        private boolean giveCheese(int goats) {
            for (int plant = 0; plant < hill.plants; plant++) {
                int sum = 0;
                for (int g = 0; g < hill.herd.count; g++) {
                    sum += bit(goats, g) * eaten[g * PLANTS + plant];
                }
                if (sum != hill.cheeses[plant]) {
                    return false;
                }
            }
            return true;
        }
    }

    /** What the CLUES say of the CASES. */
    private static final class Evidence {
        static final int SPOTS = GOATS * HOURS;

        final Acts acts;
        final Day day;
        Hill hill;
        /** By CASE the CLUES that are TRUE, as bits, and where the goats are. */
        final int[] truths = new int[CASES];
        final byte[] spots = new byte[CASES * SPOTS];
        final int[] tally = new int[PLACES];
        int truthsVersion;
        int dayVersion;
        int dayCase;
        int askedGoat;
        int askedHour;
        int askedMost;

        Evidence(Acts acts, Hill hill) {
            this.acts = acts;
            this.hill = hill;
            day = new Day(acts, hill);
            truthsVersion = NONE;
            dayVersion = NONE;
        }

        void use(Hill next) {
            hill = next;
            day.hill = next;
        }

        Day dayOf(int c) {
            if (dayVersion != acts.version || dayCase != c) {
                day.prepare(c);
                day.play(0, hill.hours - 1);
                dayVersion = acts.version;
                dayCase = c;
            }
            return day;
        }

        /** Runs all DAYS anew, if an ACT has come between. */
        Evidence freshened() {
            for (int c = 0; c < hill.cases && truthsVersion != acts.version; c++) {
                dayOf(c);
                truths[c] = 0;
                for (int k = 0; k < hill.herd.clues; k++) {
                    truths[c] |= day.shows(k) ? 1 << k : 0;
                }
                for (int i = 0; i < SPOTS; i++) {
                    spots[c * SPOTS + i] = (byte) day.spots[i];
                }
            }
            truthsVersion = acts.version;
            return this;
        }

        private int heardClues() {
            return hill.herd.cluesOf(acts.now[Acts.HEARD]);
        }

        private boolean bears(int c, int clues) {
            return (clues & ~truths[c]) == 0;
        }

        int howManyFit() {
            int clues = heardClues();
            int count = 0;
            for (int c = 0; c < hill.cases; c++) {
                count += bears(c, clues) ? 1 : 0;
            }
            return count;
        }

        int fitting(int i) {
            int clues = heardClues();
            int ahead = 0;
            for (int c = 0; c < hill.cases; c++) {
                if (bears(c, clues)) {
                    if (ahead == i) {
                        return c;
                    }
                    ahead++;
                }
            }
            return NONE;
        }

        int somewhere(int p, int hour) {
            int clues = heardClues();
            int where = 0;
            for (int c = 0; c < hill.cases; c++) {
                int place = hill.placeIn(c, p, hour);
                if (place >= 0 && bears(c, clues)) {
                    where |= 1 << place;
                }
            }
            return where;
        }

        int everywhere(int p, int hour) {
            int where = somewhere(p, hour);
            for (int place = 0; place < hill.places; place++) {
                // a person who has a story is in some PLACE in each CASE
                if (where == 1 << place) {
                    return place;
                }
            }
            return NOTHING;
        }

        int untold(int p) {
            int clues = heardClues();
            int lies = (1 << hill.stories[p]) - 1;
            for (int c = 0; c < hill.cases; c++) {
                int i = hill.storyIn(c, p);
                if (i >= 0 && bears(c, clues)) {
                    lies &= ~(1 << i);
                }
            }
            return lies;
        }

        int fewestFalse() {
            int best = NOTHING;
            int fewest = GOATS + 1;
            for (int goats = 0; goats < 1 << hill.herd.count; goats++) {
                int clues = hill.herd.cluesOf(acts.now[Acts.HEARD] & ~goats);
                if (Integer.bitCount(goats) < fewest && anyBears(clues)) {
                    best = goats;
                    fewest = Integer.bitCount(goats);
                }
            }
            return best;
        }

        private boolean anyBears(int clues) {
            for (int c = 0; c < hill.cases; c++) {
                if (bears(c, clues)) {
                    return true;
                }
            }
            return false;
        }

        int oddsOf(int c) {
            int odds = 1;
            for (int g = 0; g < hill.herd.count; g++) {
                int clues = hill.herd.cluesOf(acts.now[Acts.HEARD] & 1 << g);
                if (clues != 0) {
                    odds *= bears(c, clues) ? hill.herd.trust[g] : 10 - hill.herd.trust[g];
                }
            }
            return odds;
        }

        int greatestOdds() {
            int best = 0;
            int greatest = 0;
            for (int c = 0; c < hill.cases; c++) {
                int odds = oddsOf(c);
                if (odds > greatest) {
                    greatest = odds;
                    best = c;
                }
            }
            return best;
        }

        int fewestProving(int p, int place, int hour) {
            int best = NOTHING;
            int fewest = GOATS + 1;
            for (int goats = 0; goats < 1 << hill.herd.count; goats++) {
                if (Integer.bitCount(goats) < fewest && prove(goats, p, place, hour)) {
                    best = goats;
                    fewest = Integer.bitCount(goats);
                }
            }
            return best;
        }

        private boolean prove(int goats, int p, int place, int hour) {
            int clues = hill.herd.cluesOf(goats);
            boolean any = false;
            for (int c = 0; c < hill.cases; c++) {
                if (bears(c, clues)) {
                    if (hill.placeIn(c, p, hour) != place) {
                        return false;
                    }
                    any = true;
                }
            }
            return any;
        }

        /** Finds what to ask; false if there is nothing to ask. */
        boolean question() {
            if (hill.herd.count == 0 || howManyFit() < 2) {
                return false;
            }
            askedMost = CASES + 1;
            for (int g = 0; g < hill.herd.count; g++) {
                for (int h = 0; h < hill.hours; h++) {
                    int most = mostLeft(g, h);
                    if (most < askedMost) {
                        askedMost = most;
                        askedGoat = g;
                        askedHour = h;
                    }
                }
            }
            return true;
        }

        private int mostLeft(int g, int h) {
            int clues = heardClues();
            int most = 0;
            Arrays.fill(tally, 0);
            for (int c = 0; c < hill.cases; c++) {
                if (bears(c, clues)) {
                    int place = spots[c * SPOTS + g * HOURS + h];
                    tally[place]++;
                    most = Math.max(most, tally[place]);
                }
            }
            return most;
        }
    }

    /** Looks for the fewest SALTS, or DOGS, more with which a goat is somewhere. */
    private static final class Lure {
        static final int SPOTS = PLACES * HOURS;

        final Day day;
        /** The state of the DAY behind each hour (row 0: at first), with none more and with one more. */
        final int[] plain = new int[(HOURS + 1) * Day.STATE];
        final int[] lured = new int[(HOURS + 1) * Day.STATE];
        /** By spot, whether one more there leaves the DAY as it is. */
        final boolean[] dull = new boolean[SPOTS];
        int goat;
        int place;
        int hour;
        int sort;
        int firstSpot;
        int secondSpot;

        Lure(Acts acts, Hill hill) {
            day = new Day(acts, hill);
        }

        void use(Hill next) {
            day.hill = next;
        }

        int fewest(int c, int g, int where, int when, int what) {
            goat = g;
            place = where;
            hour = when;
            sort = what;
            day.prepare(c);
            save(plain, 0);
            playSaving(plain, 0, hour);
            if (isThere()) {
                return 0;
            }
            if (findOne()) {
                return 1;
            }
            firstSpot = SPOTS;
            secondSpot = SPOTS;
            for (int early = 0; early < day.hill.places * HOURS; early++) {
                if (isFree(early)) {
                    findLater(early);
                }
            }
            return firstSpot < SPOTS ? 2 : NOTHING;
        }

        private boolean isThere() {
            return day.state[PLACES + goat] == place;
        }

        /** One behind the hour that is looked at, or where there is one, is no help. */
        private boolean isFree(int spot) {
            return spot % HOURS <= hour && bit(day.lures[sort + spot % HOURS], spot / HOURS) == 0;
        }

        private void turn(int spot) {
            day.lures[sort + spot % HOURS] ^= 1 << spot / HOURS;
        }

        private void save(int[] rows, int row) {
            System.arraycopy(day.state, 0, rows, row * Day.STATE, Day.STATE);
        }

        private void load(int[] rows, int row) {
            System.arraycopy(rows, row * Day.STATE, day.state, 0, Day.STATE);
        }

        private boolean isAs(int[] rows, int row) {
            for (int i = 0; i < Day.STATE; i++) {
                if (day.state[i] != rows[row * Day.STATE + i]) {
                    return false;
                }
            }
            return true;
        }

        private void playSaving(int[] rows, int from, int to) {
            for (int h = from; h <= to; h++) {
                day.play(h, h);
                save(rows, h + 1);
            }
        }

        private boolean findOne() {
            for (int spot = 0; spot < day.hill.places * HOURS; spot++) {
                dull[spot] = true;
                if (isFree(spot) && changes(spot, plain)) {
                    dull[spot] = false;
                    if (isThere()) {
                        firstSpot = spot;
                        return true;
                    }
                }
            }
            return false;
        }

        /** Plays on from the spot's hour with one more there, if that hour ends unlike its row. */
        private boolean changes(int spot, int[] rows) {
            int h = spot % HOURS;
            turn(spot);
            load(rows, h);
            day.play(h, h);
            boolean unlike = !isAs(rows, h + 1);
            if (unlike) {
                day.play(h + 1, hour);
            }
            turn(spot);
            return unlike;
        }

        /**
         * Tries pairs by the one of the earlier hour, so that its DAY is played once; keeps the pair that
         * is the first by spots.
         */
        private void findLater(int early) {
            int from = early % HOURS;
            // with a dull one only another in the same hour can do more than that other alone
            int to = dull[early] ? from : hour;
            turn(early);
            load(plain, from);
            save(lured, from);
            playSaving(lured, from, to);
            for (int late = 0; late < day.hill.places * HOURS; late++) {
                int h = late % HOURS;
                boolean behind = h > from && h <= to || h == from && late > early;
                if (behind && isSooner(early, late) && isFree(late) && changes(late, lured) && isThere()) {
                    firstSpot = Math.min(early, late);
                    secondSpot = Math.max(early, late);
                }
            }
            turn(early);
        }

        private boolean isSooner(int early, int late) {
            int first = Math.min(early, late);
            return first < firstSpot || first == firstSpot && Math.max(early, late) < secondSpot;
        }
    }
}

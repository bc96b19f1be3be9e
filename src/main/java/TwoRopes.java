import java.util.Arrays;

/** A yard's book of two ropes; the document's numbered promises say what each call answers. */
public final class TwoRopes {
    public static final int NONE = -1;

    private static final int NO_ROUTINE = -100000;
    private static final int REFUSED = -2;
    private static final int MOST_BYTES = 1400;
    private static final int MOST_RHYME = 300;
    private static final int MOST_STOP = 20;
    private static final int MOST_PENALTY = 99;
    private static final int PERSONS = 6;
    private static final int MOST_BEATS = 200;
    private static final int MOST_TICKS = 800;

    // Which feet are down, and a FOOT; OPEN is also the sign ? of a judge's tape.
    private static final int NO_FOOT = 0;
    private static final int LEFT_FOOT = 1;
    private static final int RIGHT_FOOT = 2;
    private static final int BOTH_FEET = 3;
    private static final int OPEN = 4;

    private static final int PLAIN = 0;
    private static final int CROSSED = 1;
    private static final int A_OFF = 2;
    private static final int B_OFF = 3;
    private static final int STILL = 4;

    private final byte[] tapeBytes = new byte[MOST_BYTES];
    private final Reader reader = new Reader();
    private final Yard yard = new Yard();
    private final Joiner joiner = new Joiner();
    private final Rhyme saying = new Rhyme();
    private final Judges judges = new Judges();
    // A text is read into the spare one, so that a FAULT leaves the one in use as it is.
    private Book tricks = new Book();
    private Book spareTricks = new Book();
    private Routine plan = new Routine();
    private Routine sparePlan = new Routine();
    private boolean planned;
    private int tapeLength;
    private int stop = 4;
    private int penalty = 10;

    public TwoRopes() {
    }

    public int feed(int a, int b, int c, int d, int e) {
        if (tapeLength > MOST_BYTES - 20) {
            return NONE;
        }
        putFour(tapeLength, a);
        putFour(tapeLength + 4, b);
        putFour(tapeLength + 8, c);
        putFour(tapeLength + 12, d);
        putFour(tapeLength + 16, e);
        tapeLength += 20;
        return tapeLength;
    }

    private void putFour(int at, int four) {
        if (at < 0 || at > MOST_BYTES - 4) {
            return;
        }
        tapeBytes[at] = (byte) (four >> 24);
        tapeBytes[at + 1] = (byte) (four >> 16);
        tapeBytes[at + 2] = (byte) (four >> 8);
        tapeBytes[at + 3] = (byte) four;
    }

    public int end(int n) {
        if (n < 0 || n > tapeLength) {
            return NONE;
        }
        tapeLength = n;
        return n;
    }

    public int book() {
        reader.open(tapeBytes, takeTape());
        if (!spareTricks.readAll(reader)) {
            return NONE;
        }
        Book read = spareTricks;
        spareTricks = tricks;
        tricks = read;
        joiner.forget();
        planned = false;
        yard.log.forget();
        return tricks.count;
    }

    public int routine() {
        reader.open(tapeBytes, takeTape());
        if (!sparePlan.readAll(reader, tricks)) {
            return NONE;
        }
        Routine read = sparePlan;
        sparePlan = plan;
        plan = read;
        planned = true;
        yard.log.forget();
        return plan.count;
    }

    private int takeTape() {
        int length = tapeLength;
        tapeLength = 0;
        return length;
    }

    public int fault(int what) {
        switch (what) {
            case 0: return reader.fault;
            case 1: return reader.faultPlace;
            default: return NONE;
        }
    }

    public int trick(int trick, boolean mirrored, int what) {
        return tricks.has(trick) ? tricks.list[trick].tell(mirrored, what) : NONE;
    }

    public int sound(int trick) {
        return tricks.has(trick) ? tricks.list[trick].firstClash() : REFUSED;
    }

    public boolean rules(int stop, int penalty) {
        if (stop < 0 || stop > MOST_STOP || penalty < 0 || penalty > MOST_PENALTY) {
            return false;
        }
        this.stop = stop;
        this.penalty = penalty;
        return true;
    }

    public int run() {
        if (!planned) {
            return NO_ROUTINE;
        }
        yard.play(tricks, plan, stop);
        return yard.log.gained - penalty * yard.log.misses;
    }

    public int ran(int what) {
        if (!yard.log.kept) {
            return NONE;
        }
        switch (what) {
            case 0: return yard.log.beats;
            case 1: return yard.log.misses;
            case 2: return yard.log.dones;
            case 3: return yard.log.gained;
            case 4: return yard.log.stills;
            default: return NONE;
        }
    }

    public int miss(int k, int what) {
        return yard.log.tellMiss(k, what);
    }

    public int done(int k, int what) {
        return yard.log.tellDone(k, what);
    }

    public int mode(int beat) {
        return yard.log.tellMode(beat);
    }

    public int person(int person, int beat, int what) {
        return yard.log.tellPerson(person, beat, what);
    }

    public int feet(int person, int tick) {
        return yard.log.tellFeet(person, tick);
    }

    public int best(int n, int foot, int faces) {
        if (!canJoin(n, foot, faces)) {
            return NONE;
        }
        joiner.choose(tricks, n, foot, faces);
        return joiner.worthOfRow();
    }

    public int joined(int n, int foot, int faces, int k, int what) {
        if (!canJoin(n, foot, faces)) {
            return NONE;
        }
        joiner.choose(tricks, n, foot, faces);
        return joiner.tellPlace(k, what);
    }

    private static boolean canJoin(int n, int foot, int faces) {
        return n >= 0 && n <= MOST_BEATS && foot >= 0 && foot <= 3 && faces >= 0 && faces <= 3;
    }

    public int rhyme() {
        if (tapeLength > MOST_RHYME) {
            return NONE;
        }
        saying.readAll(tapeBytes, takeTape());
        return saying.syllables;
    }

    public int word(int k) {
        return k >= 0 && k < saying.words ? saying.starts[k] : NONE;
    }

    public int stays(int n) {
        return saying.lastOf(n);
    }

    public int tape(int judge, int person, int beat) {
        if (!isPerson(person) || !isBeat(beat) || !judges.canTake(judge, tapeLength)) {
            return REFUSED;
        }
        return judges.take(judge, person, beat, tapeBytes, takeTape());
    }

    public boolean untell(int tape) {
        return judges.takeBack(tape);
    }

    public int later(int by) {
        return judges.goOn(by);
    }

    public int seen(int person, int tick, int k) {
        if (!isPerson(person) || !isTick(tick)) {
            return NONE;
        }
        judges.pick(person, k);
        return judges.look(tick);
    }

    public int steps(int person, int foot, int x, int y, boolean most, int k) {
        boolean oneFoot = foot == LEFT_FOOT || foot == RIGHT_FOOT;
        if (!isPerson(person) || !oneFoot || !isTick(x) || !isTick(y) || x > y) {
            return NONE;
        }
        judges.pick(person, k);
        return judges.countSteps(foot, x, y, most);
    }

    public int told(int person, int beat, int trick, boolean mirrored, int k) {
        if (!isPerson(person) || !isBeat(beat) || !tricks.has(trick)) {
            return NONE;
        }
        judges.pick(person, k);
        return judges.compare(tricks.list[trick], mirrored, 4 * beat);
    }

    public int slip(int person, boolean sure, int k) {
        if (!isPerson(person) || !yard.log.kept) {
            return NONE;
        }
        judges.pick(person, k);
        return judges.firstSlip(yard.log, sure);
    }

    public int about(int what) {
        switch (what) {
            case 0: return tricks.count;
            case 1: return planned ? plan.count : 0;
            case 2: return judges.count;
            case 3: return judges.time;
            case 4: return saying.words;
            case 5: return tapeLength;
            case 6: return stop;
            case 7: return penalty;
            default: return NONE;
        }
    }

    private static boolean isPerson(int person) {
        return person >= 0 && person < PERSONS;
    }

    private static boolean isBeat(int beat) {
        return beat >= 0 && beat < MOST_BEATS;
    }

    private static boolean isTick(int tick) {
        return tick >= 0 && tick < MOST_TICKS;
    }

    private static boolean isLetter(int sign) {
        return sign >= 'a' && sign <= 'z';
    }

    private static boolean isDigit(int sign) {
        return sign >= '0' && sign <= '9';
    }

    /** Which feet a sign tells of; NONE if it is none of - l r b. */
    private static int feetOf(int sign) {
        switch (sign) {
            case '-': return NO_FOOT;
            case 'l': return LEFT_FOOT;
            case 'r': return RIGHT_FOOT;
            case 'b': return BOTH_FEET;
            default: return NONE;
        }
    }

    private static int otherSide(int feet) {
        switch (feet) {
            case LEFT_FOOT: return RIGHT_FOOT;
            case RIGHT_FOOT: return LEFT_FOOT;
            default: return feet;
        }
    }

    /** Whether a rope passes at a TICK (0 .. 3) of a BEAT of that MODE. */
    private static boolean passes(int mode, int tick) {
        if (tick == 0) {
            return mode == PLAIN || mode == CROSSED || mode == B_OFF;
        }
        return tick == 2 && (mode == PLAIN || mode == A_OFF);
    }

    /** The TOKENS of a text, one at a time, and the first FAULT that is found in it. */
    private static final class Reader {
        // FAULTS; the fifth is another one in a BOOK than in a ROUTINE.
        private static final int NO_TOKEN = 1;
        private static final int CANNOT_STAND = 2;
        private static final int TOLD_ALREADY = 3;
        private static final int NO_SUCH_NUMBER = 4;
        private static final int HAS_MODE = 5;
        private static final int NO_SUCH_TRICK = 5;

        // A word that stands for itself is of the kind that is its place in WORDS.
        private static final String WORDS =
            "trick worth feet cross to off turn from facing alone a b l r beats at in out does mirrored takes left right ";
        private static final int WORD_COUNT = 23;
        private static final int TRICK = 0;
        private static final int WORTH = 1;
        private static final int FEET = 2;
        private static final int CROSS = 3;
        private static final int TO = 4;
        private static final int OFF = 5;
        private static final int TURN = 6;
        private static final int FROM = 7;
        private static final int FACING = 8;
        private static final int ALONE = 9;
        private static final int A = 10;
        private static final int B = 11;
        private static final int L = 12;
        private static final int R = 13;
        private static final int BEATS = 14;
        private static final int AT = 15;
        private static final int IN = 16;
        private static final int OUT = 17;
        private static final int DOES = 18;
        private static final int MIRRORED = 19;
        private static final int TAKES = 20;
        private static final int LEFT = 21;
        private static final int RIGHT = 22;
        private static final int NAME = 30;
        private static final int NUMBER = 31;
        private static final int SIGNS = 32;
        private static final int COLON = 33;
        private static final int SEMICOLON = 34;
        private static final int END = 35;
        private static final int BAD = 36;

        private byte[] text = new byte[0];
        private final long[] wordLetters = new long[WORD_COUNT];
        private int length;
        private int at;
        private int fault;
        private int faultPlace = NONE;

        // The TOKEN that stands at 'place'.
        private int place;
        private int kind = END;
        private int value;
        private long letters;

        Reader() {
            int word = 0;
            long sum = 0;
            for (int i = 0; i < WORDS.length(); i++) {
                char sign = WORDS.charAt(i);
                if (sign != ' ') {
                    sum = withLetter(sum, sign);
                } else if (word < WORD_COUNT) {
                    wordLetters[word] = sum;
                    word++;
                    sum = 0;
                }
            }
        }

        /** A word's letters as one number, five bits each: no two words of up to 8 letters share it. */
        private static long withLetter(long sum, int letter) {
            return sum * 32 + (letter - 'a' + 1);
        }

        void open(byte[] tape, int tapeLength) {
            text = tape;
            length = Math.min(tapeLength, tape.length);
            at = 0;
            fault = 0;
            faultPlace = NONE;
            advance();
        }

        /** Tells the FAULT of the TOKEN that stands here; the answer is always false, for callers to hand on. */
        boolean refuse(int why) {
            fault = kind == BAD ? NO_TOKEN : why;
            faultPlace = place;
            return false;
        }

        /** Goes behind a TOKEN of the kind that must stand here. */
        boolean pass(int wanted) {
            if (kind != wanted) {
                return refuse(CANNOT_STAND);
            }
            advance();
            return true;
        }

        /** Whether a number from least to most stands here; stays at it, as its place may be needed. */
        boolean numberStands(int least, int most) {
            if (kind != NUMBER) {
                return refuse(CANNOT_STAND);
            }
            return value >= least && value <= most || refuse(NO_SUCH_NUMBER);
        }

        void advance() {
            while (at < length && (text[at] == ' ' || text[at] == '\n')) {
                at++;
            }
            place = at;
            if (at >= length) {
                kind = END;
            } else if (isLetter(text[at])) {
                readWord();
            } else if (isDigit(text[at])) {
                readNumber();
            } else if (text[at] == '"') {
                readSigns();
            } else {
                readMark();
            }
        }

        private void readWord() {
            letters = 0;
            while (at < length && isLetter(text[at])) {
                letters = withLetter(letters, text[at]);
                at++;
            }
            kind = at - place > 8 ? BAD : kindOfWord();
        }

        private int kindOfWord() {
            for (int word = 0; word < WORD_COUNT; word++) {
                if (wordLetters[word] == letters) {
                    return word;
                }
            }
            return NAME;
        }

        private void readNumber() {
            value = 0;
            while (at < length && isDigit(text[at])) {
                value = value * 10 + (text[at] - '0');
                at++;
            }
            boolean letterBehind = at < length && isLetter(text[at]);
            kind = at - place > 3 || letterBehind ? BAD : NUMBER;
        }

        private void readSigns() {
            at++;
            while (at < length && feetOf(text[at]) != NONE) {
                at++;
            }
            value = at - place - 1;
            boolean closed = at < length && text[at] == '"';
            if (closed) {
                at++;
            }
            boolean fits = value >= 4 && value <= Trick.MOST_SIGNS && value % 4 == 0;
            kind = closed && fits ? SIGNS : BAD;
        }

        private void readMark() {
            switch (text[at]) {
                case ':':
                    kind = COLON;
                    break;
                case ';':
                    kind = SEMICOLON;
                    break;
                default:
                    kind = BAD;
            }
            at++;
        }

        /** Which feet sign n of the FEET that stand here tells of. */
        int signAt(int n) {
            int index = place + 1 + n;
            return n >= 0 && n < value && index < length ? feetOf(text[index]) : NO_FOOT;
        }
    }

    /** A trick as it is told, and as it is MIRRORED. */
    private static final class Trick {
        private static final int MOST_SIGNS = 32;
        private static final int ANY = 0;

        private final int[] downs = new int[MOST_SIGNS];
        private final int[] modes = new int[MOST_SIGNS / 4];
        private long name;
        private int worth;
        private int beats;
        private int turn;
        private int from;
        private int facing;
        private boolean alone;

        void clear(long newName) {
            name = newName;
            worth = 0;
            beats = 0;
            turn = 0;
            from = ANY;
            facing = NONE;
            alone = false;
            Arrays.fill(downs, NO_FOOT);
            Arrays.fill(modes, PLAIN);
        }

        void takeSigns(Reader reader) {
            beats = reader.value / 4;
            for (int tick = 0; tick < 4 * beats && tick < MOST_SIGNS; tick++) {
                downs[tick] = reader.signAt(tick);
            }
        }

        /** Gives BEATS a MODE; false as soon as one has one already. */
        boolean setModes(int first, int last, int mode) {
            for (int beat = Math.max(first, 0); beat <= last && beat < modes.length; beat++) {
                if (modes[beat] != PLAIN) {
                    return false;
                }
                modes[beat] = mode;
            }
            return true;
        }

        int tell(boolean mirrored, int what) {
            switch (what) {
                case 0: return beats;
                case 1: return worth;
                case 2: return turned(mirrored);
                case 3: return wantedFoot(mirrored);
                case 4: return facing;
                case 5: return alone ? 1 : 0;
                case 6: return leftFoot(mirrored);
                default: break;
            }
            if (what >= 10 && what < 10 + beats) {
                return modeAt(what - 10);
            }
            return what >= 20 && what < 20 + 4 * beats ? downAt(what - 20, mirrored) : NONE;
        }

        int turned(boolean mirrored) {
            return mirrored ? (4 - turn) & 3 : turn;
        }

        int wantedFoot(boolean mirrored) {
            return mirrored ? otherSide(from) : from;
        }

        /** The FOOT that it leaves; none: as before. */
        int leftFoot(boolean mirrored) {
            for (int tick = 4 * beats - 1; tick >= 0; tick--) {
                int down = downAt(tick, mirrored);
                if (down != NO_FOOT) {
                    return down;
                }
            }
            return NO_FOOT;
        }

        int modeAt(int beat) {
            return beat >= 0 && beat < modes.length ? modes[beat] : PLAIN;
        }

        int downAt(int tick, boolean mirrored) {
            if (tick < 0 || tick >= MOST_SIGNS) {
                return NO_FOOT;
            }
            return mirrored ? otherSide(downs[tick]) : downs[tick];
        }

        boolean canBegin(int foot, int faces, boolean mirrored) {
            int wanted = wantedFoot(mirrored);
            return (wanted == ANY || wanted == foot) && (facing == NONE || facing == faces);
        }

        /** The first TICK at which a foot is down as a rope passes; NONE if it is SOUND. */
        int firstClash() {
            for (int tick = 0; tick < 4 * beats; tick++) {
                if (downAt(tick, false) != NO_FOOT && passes(modeAt(tick / 4), tick % 4)) {
                    return tick;
                }
            }
            return NONE;
        }
    }

    /** The tricks of a BOOK. */
    private static final class Book {
        private static final int MOST_TRICKS = 12;

        private final Trick[] list = new Trick[MOST_TRICKS];
        private int count;

        Book() {
            for (int i = 0; i < MOST_TRICKS; i++) {
                list[i] = new Trick();
            }
        }

        boolean has(int trick) {
            return trick >= 0 && trick < count && trick < MOST_TRICKS;
        }

        int find(long name) {
            for (int trick = 0; trick < count && trick < MOST_TRICKS; trick++) {
                if (list[trick].name == name) {
                    return trick;
                }
            }
            return NONE;
        }

        boolean readAll(Reader reader) {
            count = 0;
            while (count < MOST_TRICKS && reader.kind == Reader.TRICK) {
                if (!readHead(reader, list[count]) || !readParts(reader, list[count])) {
                    return false;
                }
                count++;
            }
            return reader.kind == Reader.END || reader.refuse(Reader.CANNOT_STAND);
        }

        private boolean readHead(Reader reader, Trick trick) {
            return reader.pass(Reader.TRICK) && readName(reader, trick) && readWorth(reader, trick)
                && reader.pass(Reader.COLON) && reader.pass(Reader.FEET) && readSigns(reader, trick);
        }

        private boolean readName(Reader reader, Trick trick) {
            if (reader.kind != Reader.NAME) {
                return reader.refuse(Reader.CANNOT_STAND);
            }
            if (find(reader.letters) != NONE) {
                return reader.refuse(Reader.TOLD_ALREADY);
            }
            trick.clear(reader.letters);
            reader.advance();
            return true;
        }

        private boolean readWorth(Reader reader, Trick trick) {
            if (!reader.pass(Reader.WORTH) || !reader.numberStands(0, 999)) {
                return false;
            }
            trick.worth = reader.value;
            reader.advance();
            return true;
        }

        private boolean readSigns(Reader reader, Trick trick) {
            if (reader.kind != Reader.SIGNS) {
                return reader.refuse(Reader.CANNOT_STAND);
            }
            trick.takeSigns(reader);
            reader.advance();
            return true;
        }

        private boolean readParts(Reader reader, Trick trick) {
            boolean fine = true;
            for (int part = 0; part < MOST_BYTES && fine && reader.kind != Reader.SEMICOLON; part++) {
                switch (reader.kind) {
                    case Reader.CROSS:
                    case Reader.OFF:
                        fine = readModes(reader, trick);
                        break;
                    case Reader.TURN:
                        fine = readTurn(reader, trick);
                        break;
                    case Reader.FROM:
                        fine = readFrom(reader, trick);
                        break;
                    case Reader.FACING:
                        fine = readFacing(reader, trick);
                        break;
                    case Reader.ALONE:
                        fine = readAlone(reader, trick);
                        break;
                    default:
                        fine = reader.refuse(Reader.CANNOT_STAND);
                }
            }
            return fine && reader.pass(Reader.SEMICOLON);
        }

        private boolean readModes(Reader reader, Trick trick) {
            int mode = CROSSED;
            if (reader.kind == Reader.OFF) {
                reader.advance();
                if (reader.kind != Reader.A && reader.kind != Reader.B) {
                    return reader.refuse(Reader.CANNOT_STAND);
                }
                mode = reader.kind == Reader.A ? A_OFF : B_OFF;
            }
            reader.advance();
            if (!reader.numberStands(0, trick.beats - 1)) {
                return false;
            }
            int first = reader.value;
            if (!trick.setModes(first, first, mode)) {
                return reader.refuse(Reader.HAS_MODE);
            }
            reader.advance();
            return reader.kind != Reader.TO || readLastBeat(reader, trick, first, mode);
        }

        private boolean readLastBeat(Reader reader, Trick trick, int first, int mode) {
            reader.advance();
            if (!reader.numberStands(first, trick.beats - 1)) {
                return false;
            }
            if (!trick.setModes(first + 1, reader.value, mode)) {
                return reader.refuse(Reader.HAS_MODE);
            }
            reader.advance();
            return true;
        }

        private boolean readTurn(Reader reader, Trick trick) {
            if (trick.turn != 0) {
                return reader.refuse(Reader.CANNOT_STAND);
            }
            reader.advance();
            if (!reader.numberStands(1, 3)) {
                return false;
            }
            trick.turn = reader.value;
            reader.advance();
            return true;
        }

        private boolean readFrom(Reader reader, Trick trick) {
            if (trick.from != Trick.ANY) {
                return reader.refuse(Reader.CANNOT_STAND);
            }
            reader.advance();
            switch (reader.kind) {
                case Reader.L:
                    trick.from = LEFT_FOOT;
                    break;
                case Reader.R:
                    trick.from = RIGHT_FOOT;
                    break;
                case Reader.B:
                    trick.from = BOTH_FEET;
                    break;
                default:
                    return reader.refuse(Reader.CANNOT_STAND);
            }
            reader.advance();
            return true;
        }

        private boolean readFacing(Reader reader, Trick trick) {
            if (trick.facing != NONE) {
                return reader.refuse(Reader.CANNOT_STAND);
            }
            reader.advance();
            if (!reader.numberStands(0, 3)) {
                return false;
            }
            trick.facing = reader.value;
            reader.advance();
            return true;
        }

        private boolean readAlone(Reader reader, Trick trick) {
            if (trick.alone) {
                return reader.refuse(Reader.CANNOT_STAND);
            }
            reader.advance();
            trick.alone = true;
            return true;
        }
    }

    /** The lines of a ROUTINE, by their numbers. */
    private static final class Routine {
        private static final int MOST_LINES = 60;
        private static final int LEFT = 0;
        private static final int RIGHT = 1;

        private final int[] beatOf = new int[MOST_LINES];
        private final int[] personOf = new int[MOST_LINES];
        // The kind of the word by which the act begins: in, out, does, takes.
        private final int[] actOf = new int[MOST_LINES];
        // The side, or of does the trick.
        private final int[] withOf = new int[MOST_LINES];
        private final boolean[] mirroredOf = new boolean[MOST_LINES];
        private int beats;
        private int count;

        boolean readAll(Reader reader, Book book) {
            count = 0;
            if (!reader.pass(Reader.BEATS) || !reader.numberStands(1, MOST_BEATS)) {
                return false;
            }
            beats = reader.value;
            reader.advance();
            if (!reader.pass(Reader.SEMICOLON)) {
                return false;
            }
            while (count < MOST_LINES && reader.kind == Reader.AT) {
                if (!readLine(reader, book)) {
                    return false;
                }
                count++;
            }
            return reader.kind == Reader.END || reader.refuse(Reader.CANNOT_STAND);
        }

        private boolean readLine(Reader reader, Book book) {
            int least = count > 0 ? beatOf[count - 1] : 0;
            if (!reader.pass(Reader.AT) || !reader.numberStands(least, beats - 1)) {
                return false;
            }
            beatOf[count] = reader.value;
            reader.advance();
            if (!reader.numberStands(0, PERSONS - 1)) {
                return false;
            }
            personOf[count] = reader.value;
            reader.advance();
            return readAct(reader, book) && reader.pass(Reader.SEMICOLON);
        }

        private boolean readAct(Reader reader, Book book) {
            actOf[count] = reader.kind;
            mirroredOf[count] = false;
            switch (reader.kind) {
                case Reader.IN:
                case Reader.OUT:
                case Reader.TAKES:
                    reader.advance();
                    return readSide(reader);
                case Reader.DOES:
                    reader.advance();
                    return readTrick(reader, book);
                default:
                    return reader.refuse(Reader.CANNOT_STAND);
            }
        }

        private boolean readSide(Reader reader) {
            if (reader.kind != Reader.LEFT && reader.kind != Reader.RIGHT) {
                return reader.refuse(Reader.CANNOT_STAND);
            }
            withOf[count] = reader.kind == Reader.LEFT ? LEFT : RIGHT;
            reader.advance();
            return true;
        }

        private boolean readTrick(Reader reader, Book book) {
            if (reader.kind != Reader.NAME) {
                return reader.refuse(Reader.CANNOT_STAND);
            }
            int trick = book.find(reader.letters);
            if (trick == NONE) {
                return reader.refuse(Reader.NO_SUCH_TRICK);
            }
            withOf[count] = trick;
            reader.advance();
            if (reader.kind == Reader.MIRRORED) {
                mirroredOf[count] = true;
                reader.advance();
            }
            return true;
        }
    }

    /** A PERSON as a ROUTINE is run. */
    private static final class Jumper {
        // As the promise of 'person' numbers them; of holding and taking the left one, the right one behind it.
        private static final int OUT = 0;
        private static final int IN = 1;
        private static final int HOLDS = 2;
        private static final int TAKES = 4;

        private int where;
        private int foot;
        private int faces;
        private int trick;
        private boolean mirrored;
        private int began;
        // Which feet are down in this BEAT, two bits for each TICK.
        private int downs;

        void reset(int newWhere) {
            where = newWhere;
            foot = NO_FOOT;
            faces = 0;
            downs = 0;
            endTrick();
        }

        boolean isFree() {
            return where == IN && trick == NONE;
        }

        boolean isInTrick() {
            return where == IN && trick != NONE;
        }

        void begin(int newTrick, boolean asMirrored, int beat) {
            trick = newTrick;
            mirrored = asMirrored;
            began = beat;
        }

        void endTrick() {
            trick = NONE;
            mirrored = false;
            began = 0;
        }

        void stepRunning() {
            int first = foot == LEFT_FOOT ? RIGHT_FOOT : LEFT_FOOT;
            int second = otherSide(first);
            downs = (first << 2) | (second << 6);
            foot = second;
        }

        void stepIn(Trick danced, int beat) {
            downs = 0;
            for (int tick = 0; tick < 4; tick++) {
                int down = danced.downAt(4 * (beat - began) + tick, mirrored);
                downs |= down << (2 * tick);
                if (down != NO_FOOT) {
                    foot = down;
                }
            }
        }

        boolean isHit(int mode) {
            for (int tick = 0; tick < 4; tick++) {
                if (((downs >> (2 * tick)) & 3) != NO_FOOT && passes(mode, tick)) {
                    return true;
                }
            }
            return false;
        }
    }

    /** Runs a ROUTINE BEAT by BEAT and tells the log of it. */
    private static final class Yard {
        private static final int MOST_IN = 3;
        private static final int CANNOT_DO = 1;
        private static final int FOURTH_IN = 2;
        private static final int WAY_IN = 3;
        private static final int WAY_OUT = 4;
        private static final int WANTS_OTHER = 5;
        private static final int NOT_ALONE = 6;
        private static final int TWO_MODES = 7;
        private static final int HANDS = 8;
        private static final int FOOT_DOWN = 9;

        private final Log log = new Log();
        private final Jumper[] jumpers = new Jumper[PERSONS];
        // By the end, left and right: who holds it, who takes it (or NONE), and whether rope a is taken.
        private final int[] holder = new int[2];
        private final int[] taker = new int[2];
        private final boolean[] halfTaken = new boolean[2];
        private int modeBefore;

        Yard() {
            for (int person = 0; person < PERSONS; person++) {
                jumpers[person] = new Jumper();
            }
        }

        void play(Book book, Routine routine, int stop) {
            setUp();
            log.begin(routine.beats);
            int line = 0;
            int stillLeft = 0;
            for (int beat = 0; beat < routine.beats; beat++) {
                boolean still = stillLeft > 0;
                while (line < routine.count && routine.beatOf[line] <= beat) {
                    if (!still) {
                        followLine(book, routine, line);
                    }
                    line++;
                }
                if (still) {
                    stillLeft--;
                    stand(beat);
                } else if (breaks(book, beat)) {
                    stillLeft = stop;
                }
            }
        }

        private void setUp() {
            for (int person = 0; person < PERSONS; person++) {
                jumpers[person].reset(person < 2 ? Jumper.HOLDS + person : Jumper.OUT);
            }
            for (int end = 0; end < 2; end++) {
                holder[end] = end;
                taker[end] = NONE;
            }
            modeBefore = PLAIN;
        }

        private void followLine(Book book, Routine routine, int line) {
            int beat = routine.beatOf[line];
            int person = routine.personOf[line];
            int with = routine.withOf[line];
            if (!isPerson(person)) {
                return;
            }
            Jumper jumper = jumpers[person];
            int law = 0;
            switch (routine.actOf[line]) {
                case Reader.IN:
                    law = comeIn(book, jumper, with);
                    break;
                case Reader.OUT:
                    law = goOut(jumper, with);
                    break;
                case Reader.DOES:
                    law = beginTrick(book, jumper, with, routine.mirroredOf[line], beat);
                    break;
                default:
                    law = takeEnd(person, with);
            }
            if (law != 0) {
                log.addMiss(beat, law, person);
            }
        }

        // The four acts answer the least law that they break, doing nothing then, or 0.

        private int comeIn(Book book, Jumper jumper, int side) {
            if (jumper.where != Jumper.OUT) {
                return CANNOT_DO;
            }
            if (countIn() >= MOST_IN) {
                return FOURTH_IN;
            }
            if (modeBefore == CROSSED || modeBefore == (side == Routine.LEFT ? A_OFF : B_OFF)) {
                return WAY_IN;
            }
            if (loneTrickGoesOn(book)) {
                return NOT_ALONE;
            }
            jumper.reset(Jumper.IN);
            jumper.foot = side == Routine.LEFT ? LEFT_FOOT : RIGHT_FOOT;
            return 0;
        }

        private int goOut(Jumper jumper, int side) {
            if (!jumper.isFree()) {
                return CANNOT_DO;
            }
            if (jumper.foot == (side == Routine.LEFT ? RIGHT_FOOT : LEFT_FOOT)) {
                return WAY_OUT;
            }
            jumper.reset(Jumper.OUT);
            return 0;
        }

        private int beginTrick(Book book, Jumper jumper, int trick, boolean mirrored, int beat) {
            if (!jumper.isFree() || !book.has(trick)) {
                return CANNOT_DO;
            }
            Trick wanted = book.list[trick];
            if (!wanted.canBegin(jumper.foot, jumper.faces, mirrored)) {
                return WANTS_OTHER;
            }
            if (wanted.alone && countIn() > 1) {
                return NOT_ALONE;
            }
            jumper.begin(trick, mirrored, beat);
            return 0;
        }

        private int takeEnd(int person, int end) {
            Jumper jumper = jumpers[person];
            boolean able = jumper.where == Jumper.OUT || jumper.isFree();
            if (!able || end < 0 || end > 1 || taker[end] != NONE) {
                return CANNOT_DO;
            }
            jumper.reset(Jumper.TAKES + end);
            taker[end] = person;
            halfTaken[end] = false;
            return 0;
        }

        private int countIn() {
            int count = 0;
            for (int person = 0; person < PERSONS; person++) {
                if (jumpers[person].where == Jumper.IN) {
                    count++;
                }
            }
            return count;
        }

        private boolean loneTrickGoesOn(Book book) {
            for (int person = 0; person < PERSONS; person++) {
                Jumper jumper = jumpers[person];
                if (jumper.isInTrick() && book.has(jumper.trick) && book.list[jumper.trick].alone) {
                    return true;
                }
            }
            return false;
        }

        private void stand(int beat) {
            for (int person = 0; person < PERSONS; person++) {
                jumpers[person].downs = 0;
            }
            log.keepBeat(beat, STILL, jumpers);
        }

        /** Goes through a BEAT that is not still, behind its lines; whether it breaks off. */
        private boolean breaks(Book book, int beat) {
            int first = leastInTrick();
            int mode = wantedMode(book, first, beat);
            step(book, beat);
            boolean missed = missByModes(book, first, mode, beat) || missByHands(mode, beat) || missByFeet(mode, beat);
            if (missed) {
                breakOff();
            } else {
                endTricks(book, beat);
            }
            changeHands();
            log.keepBeat(beat, mode, jumpers);
            modeBefore = mode;
            return missed;
        }

        private int leastInTrick() {
            for (int person = 0; person < PERSONS; person++) {
                if (jumpers[person].isInTrick()) {
                    return person;
                }
            }
            return NONE;
        }

        /** The MODE that a PERSON's trick wants; plain without one. */
        private int wantedMode(Book book, int person, int beat) {
            if (!isPerson(person)) {
                return PLAIN;
            }
            Jumper jumper = jumpers[person];
            return book.has(jumper.trick) ? book.list[jumper.trick].modeAt(beat - jumper.began) : PLAIN;
        }

        private void step(Book book, int beat) {
            for (int person = 0; person < PERSONS; person++) {
                Jumper jumper = jumpers[person];
                if (jumper.isFree()) {
                    jumper.stepRunning();
                } else if (jumper.isInTrick() && book.has(jumper.trick)) {
                    jumper.stepIn(book.list[jumper.trick], beat);
                }
            }
        }

        private boolean missByModes(Book book, int first, int mode, int beat) {
            for (int person = 0; person < PERSONS; person++) {
                if (jumpers[person].isInTrick() && wantedMode(book, person, beat) != mode) {
                    log.addMiss(beat, TWO_MODES, first);
                    return true;
                }
            }
            return false;
        }

        private boolean missByHands(int mode, int beat) {
            if (mode == PLAIN) {
                return false;
            }
            for (int person = 0; person < PERSONS; person++) {
                if (jumpers[person].where >= Jumper.TAKES) {
                    log.addMiss(beat, HANDS, person);
                    return true;
                }
            }
            return false;
        }

        private boolean missByFeet(int mode, int beat) {
            boolean missed = false;
            for (int person = 0; person < PERSONS; person++) {
                if (jumpers[person].where == Jumper.IN && jumpers[person].isHit(mode)) {
                    log.addMiss(beat, FOOT_DOWN, person);
                    missed = true;
                }
            }
            return missed;
        }

        private void breakOff() {
            for (int person = 0; person < PERSONS; person++) {
                jumpers[person].endTrick();
                jumpers[person].foot = NO_FOOT;
            }
        }

        private void endTricks(Book book, int beat) {
            for (int person = 0; person < PERSONS; person++) {
                Jumper jumper = jumpers[person];
                if (!jumper.isInTrick() || !book.has(jumper.trick)) {
                    continue;
                }
                Trick danced = book.list[jumper.trick];
                if (beat - jumper.began >= danced.beats - 1) {
                    log.addDone(person, jumper, danced.worth);
                    jumper.faces = (jumper.faces + danced.turned(jumper.mirrored)) & 3;
                    jumper.endTrick();
                }
            }
        }

        private void changeHands() {
            for (int end = 0; end < 2; end++) {
                if (!isPerson(taker[end]) || !isPerson(holder[end])) {
                    continue;
                }
                if (halfTaken[end]) {
                    jumpers[holder[end]].reset(Jumper.OUT);
                    jumpers[taker[end]].reset(Jumper.HOLDS + end);
                    holder[end] = taker[end];
                    taker[end] = NONE;
                }
                halfTaken[end] = !halfTaken[end];
            }
        }
    }

    /** What is kept of the ROUTINE that was run. */
    private static final class Log {
        private static final int MOST_MISSES = 200;
        private static final int MOST_DONES = 100;
        private static final int MISS_PARTS = 3;
        private static final int DONE_PARTS = 5;

        private final int[] missParts = new int[MOST_MISSES * MISS_PARTS];
        private final int[] doneParts = new int[MOST_DONES * DONE_PARTS];
        private final int[] modes = new int[MOST_BEATS];
        // Of each BEAT and PERSON behind it where, FOOT, FACES, trick + 1, and which feet were down, in 3 2 2 4 8 bits.
        private final int[] cells = new int[MOST_BEATS * PERSONS];
        private final int[] timesDone = new int[Book.MOST_TRICKS];
        private boolean kept;
        private int beats;
        private int misses;
        private int dones;
        private int gained;
        private int stills;

        void forget() {
            kept = false;
            beats = 0;
        }

        void begin(int newBeats) {
            kept = true;
            beats = Math.min(newBeats, MOST_BEATS);
            misses = 0;
            dones = 0;
            gained = 0;
            stills = 0;
            Arrays.fill(timesDone, 0);
        }

        void addMiss(int beat, int law, int person) {
            if (misses < MOST_MISSES) {
                int at = misses * MISS_PARTS;
                missParts[at] = beat;
                missParts[at + 1] = law;
                missParts[at + 2] = person;
            }
            misses++;
        }

        void addDone(int person, Jumper jumper, int worth) {
            int gain = gainOf(jumper.trick, worth);
            if (dones < MOST_DONES) {
                int at = dones * DONE_PARTS;
                doneParts[at] = jumper.began;
                doneParts[at + 1] = jumper.trick;
                doneParts[at + 2] = person;
                doneParts[at + 3] = jumper.mirrored ? 1 : 0;
                doneParts[at + 4] = gain;
            }
            dones++;
            gained += gain;
        }

        private int gainOf(int trick, int worth) {
            if (trick < 0 || trick >= timesDone.length) {
                return 0;
            }
            timesDone[trick]++;
            switch (timesDone[trick]) {
                case 1: return worth;
                case 2: return worth / 2;
                default: return 0;
            }
        }

        void keepBeat(int beat, int mode, Jumper[] jumpers) {
            if (beat < 0 || beat >= beats) {
                return;
            }
            modes[beat] = mode;
            if (mode == STILL) {
                stills++;
            }
            for (int person = 0; person < PERSONS && person < jumpers.length; person++) {
                Jumper jumper = jumpers[person];
                cells[beat * PERSONS + person] = jumper.where | (jumper.foot << 3) | (jumper.faces << 5)
                    | ((jumper.trick + 1) << 7) | (jumper.downs << 11);
            }
        }

        int tellMiss(int k, int what) {
            boolean there = kept && k >= 0 && k < misses && k < MOST_MISSES && what >= 0 && what < MISS_PARTS;
            return there ? missParts[k * MISS_PARTS + what] : NONE;
        }

        int tellDone(int k, int what) {
            boolean there = kept && k >= 0 && k < dones && k < MOST_DONES && what >= 0 && what < DONE_PARTS;
            return there ? doneParts[k * DONE_PARTS + what] : NONE;
        }

        private boolean hasBeat(int beat) {
            return kept && beat >= 0 && beat < beats;
        }

        int tellMode(int beat) {
            return hasBeat(beat) ? modes[beat] : NONE;
        }

        int tellPerson(int person, int beat, int what) {
            if (!isPerson(person) || !hasBeat(beat)) {
                return NONE;
            }
            int cell = cells[beat * PERSONS + person];
            int where = cell & 7;
            if (what == 0) {
                return where;
            }
            if (where != Jumper.IN) {
                return NONE;
            }
            switch (what) {
                case 1: return (cell >> 3) & 3;
                case 2: return (cell >> 5) & 3;
                case 3: return ((cell >> 7) & 15) - 1;
                default: return NONE;
            }
        }

        int tellFeet(int person, int tick) {
            if (!isPerson(person) || tick < 0 || !hasBeat(tick / 4)) {
                return NONE;
            }
            int cell = cells[tick / 4 * PERSONS + person];
            return (cell & 7) == Jumper.IN ? (cell >> (11 + 2 * (tick % 4))) & 3 : NONE;
        }
    }

    /** Finds BEST: sets of tricks are bits; a FOOT and FACES together are a STAND, 4 * FOOT + FACES, sets of them bits. */
    private static final class Joiner {
        private static final int MOST_SETS = 4096;
        private static final int HALF = 6;
        private static final int HALF_SETS = 64;
        private static final int ALL_STANDS = 0xFFFF;
        private static final int EACH_FOOT = 0x1111;

        // By set, four in one number: the STANDS from which all its tricks can be joined in some order.
        private final long[] begins = new long[MOST_SETS / 4];
        // What sets of the first six tricks come to, and behind them those of the last six: rows for all sets are dear.
        private final int[] worths = new int[2 * HALF_SETS];
        private final int[] lengths = new int[2 * HALF_SETS];
        // By way, 2 * trick, and 1 more if it is mirrored: the STANDS that it begins with, and what it does to them.
        private final int[] wants = new int[2 * Book.MOST_TRICKS];
        private final int[] leaves = new int[2 * Book.MOST_TRICKS];
        private final int[] turns = new int[2 * Book.MOST_TRICKS];
        private final int[] row = new int[Book.MOST_TRICKS];
        private int rowLength;
        private int rowSet;
        private int rowAsked = NONE;
        private int sets;

        void forget() {
            sets = 0;
            rowAsked = NONE;
        }

        int worthOfRow() {
            return sumOf(worths, rowSet);
        }

        private static int sumOf(int[] halves, int set) {
            if (set < 0 || set >= MOST_SETS || halves.length < 2 * HALF_SETS) {
                return 0;
            }
            return halves[set % HALF_SETS] + halves[HALF_SETS + set / HALF_SETS];
        }

        private int standsOf(int set) {
            if (set < 0 || set >= MOST_SETS) {
                return 0;
            }
            return (int) (begins[set / 4] >> (16 * (set % 4))) & ALL_STANDS;
        }

        private void keepStands(int set, int stands) {
            if (set < 0 || set >= MOST_SETS) {
                return;
            }
            int shift = 16 * (set % 4);
            long others = begins[set / 4] & ~((long) ALL_STANDS << shift);
            begins[set / 4] = others | ((long) stands << shift);
        }

        int tellPlace(int k, int what) {
            if (k < 0 || k >= rowLength || k >= row.length) {
                return NONE;
            }
            switch (what) {
                case 0: return row[k] / 2;
                case 1: return row[k] % 2;
                default: return NONE;
            }
        }

        /** Lays the row of BEST, unless it lies there from the last time. */
        void choose(Book book, int n, int foot, int faces) {
            int stand = 4 * foot + faces;
            int asked = 16 * n + stand;
            if (asked == rowAsked) {
                return;
            }
            if (sets == 0) {
                prepare(book);
            }
            rowAsked = asked;
            rowSet = bestSet(n, stand);
            layRow(stand);
        }

        private void prepare(Book book) {
            for (int trick = 0; trick < book.count && trick < Book.MOST_TRICKS; trick++) {
                setWay(book.list[trick], 2 * trick, false);
                setWay(book.list[trick], 2 * trick + 1, true);
            }
            sumUp(book, 0, 0);
            sumUp(book, HALF, HALF_SETS);
            sets = Math.min(1 << book.count, MOST_SETS);
            keepStands(0, ALL_STANDS);
            for (int set = 1; set < sets; set++) {
                keepStands(set, standsFor(set, book.count));
            }
        }

        /** What each set of six tricks comes to, from one trick and from one place on. */
        private void sumUp(Book book, int firstTrick, int place) {
            for (int set = 1; set < HALF_SETS; set++) {
                int trick = firstTrick + Integer.numberOfTrailingZeros(set);
                int rest = place + (set & (set - 1));
                boolean told = book.has(trick);
                worths[place + set] = worths[rest] + (told ? book.list[trick].worth : 0);
                lengths[place + set] = lengths[rest] + (told ? book.list[trick].beats : 0);
            }
        }

        private void setWay(Trick trick, int way, boolean mirrored) {
            if (way < 0 || way >= wants.length) {
                return;
            }
            wants[way] = 0;
            leaves[way] = trick.leftFoot(mirrored);
            turns[way] = trick.turned(mirrored);
            if (trick.firstClash() != NONE) {
                return;
            }
            for (int stand = 0; stand < 16; stand++) {
                if (trick.canBegin(stand / 4, stand % 4, mirrored)) {
                    wants[way] |= 1 << stand;
                }
            }
        }

        private int standsFor(int set, int count) {
            int stands = 0;
            for (int trick = 0; trick < count && trick < Book.MOST_TRICKS; trick++) {
                if (((set >> trick) & 1) == 0) {
                    continue;
                }
                int behind = standsOf(set ^ (1 << trick));
                if (behind != 0) {
                    stands |= standsAhead(2 * trick, behind) | standsAhead(2 * trick + 1, behind);
                }
            }
            return stands;
        }

        /** The STANDS from which a way can be gone and leads to one of those behind it. */
        private int standsAhead(int way, int behind) {
            int turn = turns[way];
            int unwrapped = EACH_FOOT * ((1 << (4 - turn)) - 1);
            int turnedBack = ((behind >> turn) & unwrapped) | ((behind << (4 - turn)) & ALL_STANDS & ~unwrapped);
            if (leaves[way] != NO_FOOT) {
                turnedBack = EACH_FOOT * ((turnedBack >> (4 * leaves[way])) & 15);
            }
            return turnedBack & wants[way];
        }

        private int standBehind(int way, int stand) {
            int foot = leaves[way] == NO_FOOT ? stand / 4 : leaves[way];
            return 4 * foot + ((stand + turns[way]) & 3);
        }

        /** As sets come in the order of their bits, the first of like ones stays. */
        private int bestSet(int n, int stand) {
            int chosen = 0;
            int mostWorth = 0;
            int fewestBeats = 0;
            for (int set = 1; set < sets; set++) {
                int beats = sumOf(lengths, set);
                if (((standsOf(set) >> stand) & 1) == 0 || beats > n) {
                    continue;
                }
                int worth = sumOf(worths, set);
                if (worth > mostWorth || worth == mostWorth && beats < fewestBeats) {
                    chosen = set;
                    mostWorth = worth;
                    fewestBeats = beats;
                }
            }
            return chosen;
        }

        private void layRow(int stand) {
            int rest = rowSet;
            int reached = stand;
            rowLength = 0;
            while (rest != 0 && rowLength < row.length) {
                int way = firstWay(rest, reached);
                if (way == NONE) {
                    return;
                }
                row[rowLength] = way;
                rowLength++;
                rest ^= 1 << (way / 2);
                reached = standBehind(way, reached);
            }
        }

        /** The first way by which the rest can still be joined whole. */
        private int firstWay(int rest, int stand) {
            for (int way = 0; way < wants.length; way++) {
                int bit = 1 << (way / 2);
                boolean can = (rest & bit) != 0 && ((wants[way] >> stand) & 1) != 0;
                if (can && ((standsOf(rest ^ bit) >> standBehind(way, stand)) & 1) != 0) {
                    return way;
                }
            }
            return NONE;
        }
    }

    /** The words and SYLLABLES of a RHYME. */
    private static final class Rhyme {
        private static final int MOST_CHILDREN = 100;

        private final int[] starts = new int[MOST_RHYME];
        private int words;
        private int syllables;

        void readAll(byte[] text, int length) {
            words = 0;
            syllables = 0;
            int runs = 0;
            boolean inWord = false;
            boolean inRun = false;
            for (int at = 0; at < length && at < text.length; at++) {
                boolean letter = isLetter(text[at]);
                boolean vowel = isVowel(text[at]);
                if (letter && !inWord) {
                    beginWord();
                    runs = 0;
                }
                if (vowel && !inRun) {
                    runs++;
                    // the first run is the SYLLABLE that a word has at least
                    syllables += runs > 1 ? 1 : 0;
                }
                inWord = letter;
                inRun = vowel;
            }
        }

        private void beginWord() {
            if (words < starts.length) {
                starts[words] = syllables;
                words++;
            }
            syllables++;
        }

        private static boolean isVowel(int sign) {
            return sign == 'a' || sign == 'e' || sign == 'i' || sign == 'o' || sign == 'u' || sign == 'y';
        }

        /** Who stays: found from a ring of one on, each time with one child more ahead of it. */
        int lastOf(int children) {
            if (syllables == 0 || children < 1 || children > MOST_CHILDREN) {
                return NONE;
            }
            int last = 0;
            for (int ring = 2; ring <= children; ring++) {
                last = (last + syllables) % ring;
            }
            return last;
        }
    }

    /** The judges' TAPES and the TIME. */
    private static final class Judges {
        private static final int JUDGES = 3;
        private static final int MOST_TAPES = 30;
        private static final int MOST_SIGNS = 200;
        private static final int MOST_TIME = 100000;
        private static final int MOST_LATER = 1000;
        private static final int SIGNS_IN_ONE = 20;
        private static final int ROW = MOST_SIGNS / SIGNS_IN_ONE;

        // Of each TAPE ten numbers with twenty signs each, three bits a sign.
        private final long[] signs = new long[MOST_TAPES * ROW];
        private final int[] judgeOf = new int[MOST_TAPES];
        private final int[] personOf = new int[MOST_TAPES];
        private final int[] firstTick = new int[MOST_TAPES];
        private final int[] lengthOf = new int[MOST_TAPES];
        private final int[] toldAt = new int[MOST_TAPES];
        private final int[] untoldAt = new int[MOST_TAPES];
        private int count;
        private int time;
        // The TAPES that count for what is asked, the last ones first.
        private final int[] picked = new int[MOST_TAPES];
        private int pickedCount;

        boolean canTake(int judge, int length) {
            return judge >= 0 && judge < JUDGES && length <= MOST_SIGNS && count < MOST_TAPES;
        }

        int take(int judge, int person, int beat, byte[] text, int length) {
            if (count >= MOST_TAPES) {
                return NONE;
            }
            for (int i = 0; i < length && i < MOST_SIGNS && i < text.length; i++) {
                int sign = text[i] == '?' ? OPEN : feetOf(text[i]);
                if (sign == NONE) {
                    return NONE;
                }
                keepSign(i, sign);
            }
            judgeOf[count] = judge;
            personOf[count] = person;
            firstTick[count] = 4 * beat;
            lengthOf[count] = length;
            toldAt[count] = time;
            untoldAt[count] = NONE;
            count++;
            return count - 1;
        }

        /** Signs come from the first on: a number's first one wipes what a refused TAPE left there. */
        private void keepSign(int i, int sign) {
            int at = count * ROW + i / SIGNS_IN_ONE;
            long ahead = i % SIGNS_IN_ONE == 0 ? 0 : signs[at];
            signs[at] = ahead | ((long) sign << (3 * (i % SIGNS_IN_ONE)));
        }

        boolean takeBack(int number) {
            if (number < 0 || number >= count || number >= MOST_TAPES || untoldAt[number] != NONE) {
                return false;
            }
            untoldAt[number] = time;
            return true;
        }

        int goOn(int by) {
            if (by < 0 || by > MOST_LATER || time + by > MOST_TIME) {
                return NONE;
            }
            time += by;
            return time;
        }

        /** Picks the TAPES of a PERSON as known at k, for the questions that follow. */
        void pick(int person, int k) {
            pickedCount = 0;
            for (int number = Math.min(count, MOST_TAPES) - 1; number >= 0; number--) {
                boolean untold = untoldAt[number] != NONE && untoldAt[number] <= k;
                if (personOf[number] == person && toldAt[number] <= k && !untold) {
                    picked[pickedCount] = number;
                    pickedCount++;
                }
            }
        }

        /** What is SEEN at a TICK by the TAPES that were picked: one sign of all judges who saw any, or OPEN. */
        int look(int tick) {
            if (!isTick(tick)) {
                return OPEN;
            }
            int answer = OPEN;
            int judgesHeard = 0;
            for (int i = 0; i < pickedCount; i++) {
                int sign = signOf(picked[i], tick);
                int judgeBit = 1 << judgeOf[picked[i]];
                if (sign == OPEN || (judgesHeard & judgeBit) != 0) {
                    continue;
                }
                if (judgesHeard != 0 && sign != answer) {
                    return OPEN;
                }
                judgesHeard |= judgeBit;
                answer = sign;
            }
            return answer;
        }

        private int signOf(int number, int tick) {
            int at = tick - firstTick[number];
            if (at < 0 || at >= lengthOf[number] || at >= MOST_SIGNS) {
                return OPEN;
            }
            return (int) (signs[number * ROW + at / SIGNS_IN_ONE] >> (3 * (at % SIGNS_IN_ONE))) & 7;
        }

        int countSteps(int foot, int x, int y, boolean most) {
            int steps = 0;
            for (int tick = x; tick <= y && tick < MOST_TICKS; tick++) {
                int saw = look(tick);
                boolean sure = saw == foot || saw == BOTH_FEET;
                if (sure || most && saw == OPEN) {
                    steps++;
                }
            }
            return steps;
        }

        /** TOLD of a trick from a TICK on: 2 for sure, 1 maybe, 0 not. */
        int compare(Trick trick, boolean mirrored, int from) {
            int answer = 2;
            for (int tick = 0; tick < 4 * trick.beats; tick++) {
                int saw = look(from + tick);
                if (saw == OPEN) {
                    answer = 1;
                } else if (saw != trick.downAt(tick, mirrored)) {
                    return 0;
                }
            }
            return answer;
        }

        int firstSlip(Log log, boolean sure) {
            for (int tick = 0; tick < 4 * log.beats; tick++) {
                if (!passes(log.tellMode(tick / 4), tick % 4)) {
                    continue;
                }
                int saw = look(tick);
                if (saw == OPEN ? !sure : saw != NO_FOOT) {
                    return tick;
                }
            }
            return NONE;
        }
    }
}

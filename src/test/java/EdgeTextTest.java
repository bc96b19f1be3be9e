/** Promises 1 to 6 and how texts are told: each sentence that names a boundary case has a test of its own. */
public final class EdgeTextTest {
    private static final Check CHECK = new Check("EdgeTextTest");
    private static final int BLANKS = 0x20202020;
    // The parts of a trick of one BEAT, of two and of three come behind these.
    private static final String ONE = "trick x worth 1:feet\"-l-r\"";
    private static final String TWO = "trick x worth 1:feet\"-l-r-l-r\"";
    private static final String THREE = "trick x worth 1:feet\"-l-r-l-r-l-r\"";
    private static final String[] OWN_WORDS = ("trick worth feet cross to off turn from facing alone a b l r beats at in out does "
        + "mirrored takes left right").split(" ");
    private static final int MIN = Integer.MIN_VALUE;
    private static final int MAX = Integer.MAX_VALUE;

    public static void main(String[] args) {
        newObject();
        feedOrder();
        feedTooMuch();
        endLeast();
        endTooFar();
        endCutsTexts();
        bookEmptiesTape();
        bookEndsRoutine();
        bookFaultKeepsAll();
        routineEmptiesTape();
        routineNotRunYet();
        routineFaultKeeps();
        routineHasNothingOfOthers();
        faultOfLatest();
        faultNone();
        faultOtherWhat();
        bookLongest();
        wordLetters();
        wordLength();
        numberDigits();
        feetSigns();
        feetLength();
        blanks();
        tokensApartOrNot();
        asLongAsCanBe();
        letterBehindNumber();
        ownWordsAreNoNames();
        twelveTricks();
        worthRange();
        modeBeats();
        modeSpan();
        turnRange();
        facingRange();
        fromSides();
        onceEach();
        cannotStandThere();
        firstFaultByPlace();
        faultAtTheEnd();
        leastFaultAtOnePlace();
        nameToldAlready();
        modeAlready();
        routineLongest();
        beatsRange();
        atBeat();
        atPerson();
        acts();
        sixtyLines();
        nameOfNoTrick();
        CHECK.finish();
    }

    private static void stands(String text, int tricks) {
        TwoRopes x = new TwoRopes();
        CHECK.due(text, Check.book(x, text), tricks);
        CHECK.due(text + " fault(0)", x.fault(0), 0);
        CHECK.due(text + " fault(1)", x.fault(1), -1);
        CHECK.due(text + " about(0)", x.about(0), tricks);
    }

    private static void fails(String text, int fault, int place) {
        TwoRopes x = new TwoRopes();
        CHECK.due(text, Check.book(x, text), -1);
        CHECK.due(text + " fault(0)", x.fault(0), fault);
        CHECK.due(text + " fault(1)", x.fault(1), place);
        CHECK.due(text + " about(0)", x.about(0), 0);
    }

    private static TwoRopes yard() {
        TwoRopes x = new TwoRopes();
        Check.book(x, "trick run worth 5:feet\"-l-r\";trick hop worth 9:feet\"-l--\";");
        return x;
    }

    private static void routineStands(String text, int lines) {
        TwoRopes x = yard();
        CHECK.due(text, Check.routine(x, text), lines);
        CHECK.due(text + " fault(0)", x.fault(0), 0);
        CHECK.due(text + " fault(1)", x.fault(1), -1);
        CHECK.due(text + " about(1)", x.about(1), lines);
    }

    private static void routineFails(String text, int fault, int place) {
        TwoRopes x = yard();
        CHECK.due(text, Check.routine(x, text), -1);
        CHECK.due(text + " fault(0)", x.fault(0), fault);
        CHECK.due(text + " fault(1)", x.fault(1), place);
        CHECK.due(text + " run()", x.run(), -100000);
    }

    // ---- promise 1

    private static void newObject() {
        CHECK.of("1: An empty BOOK, no ROUTINE, no TAPES.");
        TwoRopes x = new TwoRopes();
        CHECK.due("tricks", x.about(0), 0);
        CHECK.due("trick(0)", x.trick(0, false, 0), -1);
        CHECK.due("sound(0)", x.sound(0), -2);
        CHECK.due("told", x.told(0, 0, 0, false, 0), -1);
        CHECK.due("best", x.best(200, 0, 0), 0);
        CHECK.due("joined", x.joined(200, 0, 0, 0, 0), -1);
        CHECK.due("lines", x.about(1), 0);
        CHECK.due("run", x.run(), -100000);
        for (int what = 0; what < 5; what++) {
            CHECK.due("ran", x.ran(what), -1);
        }
        CHECK.due("TAPES", x.about(2), 0);
        CHECK.due("untell(0)", x.untell(0), false);
        for (int tick = 0; tick < 800; tick += 47) {
            CHECK.due("seen", x.seen(5, tick, 0), 4);
        }
        CHECK.due("TIME", x.about(3), 0);
        CHECK.due("words", x.about(4), 0);
        CHECK.due("bytes", x.about(5), 0);
        CHECK.due("STOP", x.about(6), 4);
        CHECK.due("PENALTY", x.about(7), 10);
    }

    // ---- promise 2

    private static void feedOrder() {
        CHECK.of("2: Twenty bytes come behind those on the TAPE, of each number the highest first");
        TwoRopes x = new TwoRopes();
        CHECK.due("feed", x.feed(0x6c722d62, 0x2d6c6272, 0x626c722d, 0x726c2d62, 0x6c6c7272), 20);
        CHECK.due("feed", x.feed(0x62626262, 0x2d2d2d2d, 0x6c6c6c6c, 0x72727272, 0x62722d6c), 40);
        CHECK.due("tape", x.tape(0, 0, 0), 0);
        int[] want = {1, 2, 0, 3, 0, 1, 3, 2, 3, 1, 2, 0, 2, 1, 0, 3, 1, 1, 2, 2,
            3, 3, 3, 3, 0, 0, 0, 0, 1, 1, 1, 1, 2, 2, 2, 2, 3, 2, 0, 1, 4};
        for (int tick = 0; tick < want.length; tick++) {
            CHECK.due("byte " + tick, x.seen(0, tick, 0), want[tick]);
        }
    }

    private static void feedTooMuch() {
        CHECK.of("2: NONE, and nothing comes, if there would be more than 1,400");
        TwoRopes x = new TwoRopes();
        for (int i = 1; i <= 70; i++) {
            CHECK.due("feed " + i, x.feed(BLANKS, BLANKS, BLANKS, BLANKS, BLANKS), 20 * i);
        }
        CHECK.due("feed 71", x.feed(0, 0, 0, 0, 0), -1);
        CHECK.due("bytes", x.about(5), 1400);
        CHECK.due("nothing came", x.book(), 0);
        Check.put(x, " ".repeat(1381));
        CHECK.due("1,401 there would be", x.feed(0, 0, 0, 0, 0), -1);
        CHECK.due("bytes", x.about(5), 1381);
        CHECK.due("nothing came", x.book(), 0);
        Check.put(x, " ".repeat(1380));
        CHECK.due("1,400 there would be", x.feed(BLANKS, BLANKS, BLANKS, BLANKS, 0x20202021), 1400);
        CHECK.due("all came", x.book(), -1);
        CHECK.due("all came", x.fault(1), 1399);
    }

    // ---- promise 3

    private static void endLeast() {
        CHECK.of("3: The TAPE has its first n bytes: n");
        TwoRopes x = new TwoRopes();
        CHECK.due("end(0) of an empty one", x.end(0), 0);
        Check.put(x, "lrlrlr");
        CHECK.due("all", x.end(6), 6);
        CHECK.due("fewer", x.end(5), 5);
        CHECK.due("bytes", x.about(5), 5);
        CHECK.due("the cut one is gone", x.end(6), -1);
        CHECK.due("more come behind n", x.feed(0x62626262, BLANKS, BLANKS, BLANKS, BLANKS), 25);
        CHECK.due("cut", x.end(7), 7);
        CHECK.due("tape", x.tape(0, 0, 0), 0);
        int[] want = {1, 2, 1, 2, 1, 3, 3, 4};
        for (int tick = 0; tick < want.length; tick++) {
            CHECK.due("byte " + tick, x.seen(0, tick, 0), want[tick]);
        }
        Check.put(x, "lrl");
        CHECK.due("none", x.end(0), 0);
        CHECK.due("bytes", x.about(5), 0);
    }

    private static void endTooFar() {
        CHECK.of("3: NONE, doing nothing, if it has not so many, or n is below 0");
        TwoRopes x = new TwoRopes();
        CHECK.due("one of none", x.end(1), -1);
        Check.put(x, "lrlrlr");
        for (int n : new int[] {7, 1400, 1401, MAX, -1, MIN}) {
            CHECK.due("end(" + n + ")", x.end(n), -1);
            CHECK.due("bytes", x.about(5), 6);
        }
    }

    private static void endCutsTexts() {
        CHECK.of("3: The TAPE has its first n bytes: what stood behind them is no part of the text");
        cut("trick x worth 1:", 7, 2, 7);
        cut("trick xyz worth 1:", 8, 2, 8);
        cut("trick xyzxyzxyz", 14, 2, 14);
        cut("trick x worth 1:", 14, 2, 14);
        cut("trick x worth 1x", 15, 2, 15);
        cut("trick x worth 1234", 17, 2, 17);
        cut("trick x worth 1  :", 16, 2, 16);
        cut(ONE + ";", 20, 2, 20);
        cut(ONE + ";", 21, 1, 20);
        cut(ONE + ";", 24, 1, 20);
        cut(ONE + ";", 25, 1, 20);
        cut(ONE + ";", 26, 2, 26);
        TwoRopes x = new TwoRopes();
        Check.put(x, ONE + ";!");
        x.end(27);
        CHECK.due("ahead of what is no TOKEN", x.book(), 1);
        Check.put(x, ONE + ";" + "trick y worth 1:feet\"-l-r\";");
        x.end(27);
        CHECK.due("ahead of a second trick", x.book(), 1);
        Check.put(x, "beats 123;at 0 2 in left;");
        x.end(9);
        CHECK.due("ahead of ;", x.routine(), -1);
        CHECK.due("ahead of ;", x.fault(1), 9);
        Check.put(x, "beats 123;at 0 2 in left;");
        x.end(10);
        CHECK.due("ahead of a line", x.routine(), 0);
    }

    private static void cut(String text, int end, int fault, int place) {
        TwoRopes x = new TwoRopes();
        Check.put(x, text);
        x.end(end);
        CHECK.due(text + " cut at " + end, x.book(), -1);
        CHECK.due(text + " cut at " + end + " fault(0)", x.fault(0), fault);
        CHECK.due(text + " cut at " + end + " fault(1)", x.fault(1), place);
    }

    // ---- promises 4 to 6

    private static void bookEmptiesTape() {
        CHECK.of("4: The TAPE (empty then) is the BOOK: how many tricks");
        TwoRopes x = new TwoRopes();
        CHECK.due("one", Check.book(x, ONE + ";"), 1);
        CHECK.due("bytes", x.about(5), 0);
        CHECK.due("the empty TAPE is an empty BOOK", x.book(), 0);
        CHECK.due("tricks", x.about(0), 0);
        CHECK.due("trick(0)", x.trick(0, false, 1), -1);
    }

    private static void bookEndsRoutine() {
        CHECK.of("4: the ROUTINE is none then");
        TwoRopes x = yard();
        Check.routine(x, "beats 4;at 0 2 in left;at 1 2 does run;");
        x.run();
        CHECK.due("ran", x.ran(2), 1);
        CHECK.due("the same book again", Check.book(x, "trick run worth 5:feet\"-l-r\";"), 1);
        CHECK.due("lines", x.about(1), 0);
        CHECK.due("run", x.run(), -100000);
        for (int what = 0; what < 5; what++) {
            CHECK.due("ran(" + what + ")", x.ran(what), -1);
        }
        CHECK.due("done", x.done(0, 1), -1);
        CHECK.due("mode", x.mode(0), -1);
        CHECK.due("person", x.person(0, 0, 0), -1);
        CHECK.due("feet", x.feet(2, 1), -1);
        CHECK.due("slip", x.slip(2, false, 0), -1);
    }

    private static void bookFaultKeepsAll() {
        CHECK.of("4: NONE: a FAULT (all stays)");
        TwoRopes x = yard();
        Check.routine(x, "beats 4;at 0 2 in left;at 1 2 does hop;");
        x.run();
        CHECK.due("worth of best", x.best(9, 0, 0), 14);
        CHECK.due("a FAULT behind a whole trick", Check.book(x, "trick hop worth 1:feet\"--------\";;"), -1);
        CHECK.due("tricks", x.about(0), 2);
        CHECK.due("worth", x.trick(1, false, 1), 9);
        CHECK.due("BEATS", x.trick(0, false, 0), 1);
        CHECK.due("worth of best", x.best(9, 0, 0), 14);
        CHECK.due("lines", x.about(1), 2);
        CHECK.due("ran", x.ran(3), 9);
        CHECK.due("done", x.done(0, 1), 1);
        CHECK.due("run", x.run(), 9);
        CHECK.due("a FAULT twice", Check.book(x, "trick"), -1);
        CHECK.due("tricks", x.about(0), 2);
        CHECK.due("name", Check.routine(x, "beats 4;at 0 2 does run;"), 1);
    }

    private static void routineEmptiesTape() {
        CHECK.of("5: The TAPE (empty then) is the ROUTINE: how many lines");
        TwoRopes x = yard();
        CHECK.due("no line", Check.routine(x, "beats 4;"), 0);
        CHECK.due("bytes", x.about(5), 0);
        CHECK.due("lines", x.about(1), 0);
        CHECK.due("it can be run", x.run(), 0);
        CHECK.due("the empty TAPE is none", x.routine(), -1);
        CHECK.due("place", x.fault(1), 0);
        CHECK.due("it can be run", x.run(), 0);
    }

    private static void routineNotRunYet() {
        CHECK.of("5: (not run yet)");
        TwoRopes x = yard();
        Check.routine(x, "beats 4;at 0 2 in left;at 1 2 does hop;at 1 2 does hop;");
        CHECK.due("ran", x.ran(0), -1);
        CHECK.due("run", x.run(), -1);
        Check.routine(x, "beats 4;at 0 2 in left;");
        for (int what = 0; what < 5; what++) {
            CHECK.due("ran(" + what + ")", x.ran(what), -1);
        }
        CHECK.due("miss", x.miss(0, 0), -1);
        CHECK.due("done", x.done(0, 1), -1);
        CHECK.due("mode", x.mode(0), -1);
        CHECK.due("person", x.person(0, 0, 0), -1);
        CHECK.due("feet", x.feet(2, 1), -1);
        CHECK.due("slip", x.slip(2, false, 0), -1);
    }

    private static void routineFaultKeeps() {
        CHECK.of("5: NONE: a FAULT (that there is stays)");
        TwoRopes x = yard();
        CHECK.due("a FAULT, and there is none", Check.routine(x, "beats 4;at 0 2 in left"), -1);
        CHECK.due("none stays", x.run(), -100000);
        CHECK.due("lines", x.about(1), 0);
        Check.routine(x, "beats 4;at 0 2 in left;at 1 2 does hop;");
        CHECK.due("a FAULT, not run", Check.routine(x, "beats 9;at 0 3 in left;at 1 3 in left;at 2 3 in left;;"), -1);
        CHECK.due("lines", x.about(1), 2);
        CHECK.due("not run", x.ran(0), -1);
        CHECK.due("run", x.run(), 9);
        CHECK.due("a FAULT, run", Check.routine(x, "beats 9;at 0 3 in left;at 1 3 in left;at 2 3 in left;;"), -1);
        CHECK.due("ran", x.ran(0), 4);
        CHECK.due("person", x.person(2, 3, 0), 1);
        CHECK.due("run", x.run(), 9);
        CHECK.due("tricks", x.about(0), 2);
    }

    private static void routineHasNothingOfOthers() {
        CHECK.of("5: The TAPE is the ROUTINE: it has nothing of one before, nor of one with a FAULT");
        TwoRopes x = yard();
        for (int time = 0; time < 3; time++) {
            CHECK.due("a FAULT behind two lines", Check.routine(x, "beats 9;at 5 3 in right;at 6 3 does hop mirrored;;"), -1);
            CHECK.due("one line", Check.routine(x, "beats 4;at 0 2 in left;"), 1);
            CHECK.due("run", x.run(), 0);
            CHECK.due("mirrored", Check.routine(x, "beats 6;at 0 2 in left;at 0 2 does hop mirrored;at 4 3 in left;"), 3);
            CHECK.due("run", x.run(), 9);
            CHECK.due("mirrored", x.done(0, 3), 1);
            CHECK.due("not mirrored", Check.routine(x, "beats 5;at 0 2 in left;at 0 2 does hop;"), 2);
            CHECK.due("run", x.run(), 9);
            CHECK.due("not mirrored", x.done(0, 3), 0);
            CHECK.due("nobody else", x.person(3, 4, 0), 0);
            CHECK.due("BEATS", x.ran(0), 5);
        }
    }

    private static void faultOfLatest() {
        CHECK.of("6: Of the latest of both what 0: its FAULT, 1: its place");
        TwoRopes x = yard();
        Check.book(x, "  ;");
        CHECK.due("book", x.fault(0) * 100 + x.fault(1), 202);
        Check.routine(x, "beats 0;");
        CHECK.due("routine", x.fault(0) * 100 + x.fault(1), 406);
        Check.book(x, " !");
        CHECK.due("book", x.fault(0) * 100 + x.fault(1), 101);
        Check.rhyme(x, "a rhyme");
        Check.tape(x, "no sign", 0, 0, 0);
        x.run();
        CHECK.due("no other call tells one", x.fault(0) * 100 + x.fault(1), 101);
    }

    private static void faultNone() {
        CHECK.of("6: its FAULT (0), its place (NONE)");
        TwoRopes x = new TwoRopes();
        CHECK.due("new", x.fault(0), 0);
        CHECK.due("new", x.fault(1), -1);
        Check.book(x, "!");
        Check.routine(x, "beats 1;");
        CHECK.due("routine behind a book's FAULT", x.fault(0), 0);
        CHECK.due("routine behind a book's FAULT", x.fault(1), -1);
        Check.routine(x, "!");
        Check.book(x, ONE + ";");
        CHECK.due("book behind a routine's FAULT", x.fault(0), 0);
        CHECK.due("book behind a routine's FAULT", x.fault(1), -1);
    }

    private static void faultOtherWhat() {
        CHECK.of("6: NONE for another what");
        TwoRopes x = new TwoRopes();
        Check.book(x, "trick !");
        for (int what : new int[] {-1, 2, MIN, MAX}) {
            CHECK.due("fault(" + what + ")", x.fault(what), -1);
        }
    }

    // ---- part 1: TOKENS and the BOOK

    private static void bookLongest() {
        CHECK.of("A BOOK is a text of at most 1,400 bytes");
        stands(ONE + " ".repeat(1400 - ONE.length() - 1) + ";", 1);
        fails(" ".repeat(1399) + "!", 1, 1399);
        fails(ONE + "\n".repeat(1400 - ONE.length()), 2, 1400);
        // the last byte in the middle of each kind of TOKEN
        fails(" ".repeat(1392) + "trick xx", 2, 1400);
        fails(" ".repeat(1384) + "trick x worth 12", 2, 1400);
        fails(" ".repeat(1376) + "trick x worth 1:feet\"-lr", 1, 1396);
        fails(" ".repeat(1375) + "trick x worth 1:feet\"-lr-", 1, 1395);
        fails(" ".repeat(1379) + "trick x worth 1:feet\"", 1, 1399);
        fails(" ".repeat(1374) + ONE, 2, 1400);
    }

    private static void wordLetters() {
        CHECK.of("words (a .. z)");
        stands("trick az worth 1:feet\"-l-r\";", 1);
        for (char sign : new char[] {'`', '{', 'A', 'Z', '@', '[', 0, 127, 225, 250, 255}) {
            fails("trick " + sign, 1, 6);
            fails("trick x" + sign, 1, 7);
        }
    }

    private static void wordLength() {
        CHECK.of("words (8 at most)");
        stands("trick eightone worth 1:feet\"-l-r\";", 1);
        fails("trick ninelette worth 1:feet\"-l-r\";", 1, 6);
        fails("trick " + "x".repeat(1000), 1, 6);
        stands("trick zzzzzzzz worth 1:feet\"-l-r\";trick zzzzzzz worth 1:feet\"-l-r\";trick azzzzzzz worth 1:feet\"-l-r\";", 3);
        // a word of nine letters that begins like one that stands for itself is no TOKEN either
        routineFails("beats 9;at 0 2 does run mirroredx;", 1, 24);
        routineStands("beats 9;at 0 2 does run mirrored;", 1);
    }

    private static void numberDigits() {
        CHECK.of("N (1 to 3 digits)");
        stands("trick x worth 0:feet\"-l-r\";", 1);
        stands("trick x worth 9:feet\"-l-r\";", 1);
        stands("trick x worth 000:feet\"-l-r\";", 1);
        stands("trick x worth 001:feet\"-l-r\";", 1);
        fails("trick x worth 0001:feet\"-l-r\";", 1, 14);
        fails("trick x worth 1234:feet\"-l-r\";", 1, 14);
        fails("trick x worth " + "4294967297".repeat(9) + ":", 1, 14);
        fails("trick x worth :feet\"-l-r\";", 2, 14);
        fails("trick x worth /:feet\"-l-r\";", 1, 14);
        fails("trick x worth -1:feet\"-l-r\";", 1, 14);
    }

    private static void feetSigns() {
        CHECK.of("FEET (\" and signs - l r b and \")");
        stands("trick x worth 1:feet\"-lrb\";", 1);
        for (char sign : new char[] {'?', 'a', 'L', ' ', '\n', '_', 'k', 'm', 'q', 's', 0, 255}) {
            fails("trick x worth 1:feet\"-lr" + sign + "\";", 1, 20);
        }
        fails("trick x worth 1:feet\"-l-r", 1, 20);
        fails("trick x worth 1:feet\"-l-r;", 1, 20);
        fails("trick x worth 1:feet\"", 1, 20);
        fails("trick x worth 1:feet-l-r\";", 1, 20);
        fails("trick x worth 1:feet'-l-r';", 1, 20);
    }

    private static void feetLength() {
        CHECK.of("FEET: 4 to 32 signs, a multiple of four");
        for (int signs = 0; signs <= 40; signs++) {
            String text = "trick x worth 1:feet\"" + "-".repeat(signs) + "\";";
            if (signs >= 4 && signs <= 32 && signs % 4 == 0) {
                stands(text, 1);
            } else {
                fails(text, 1, 20);
            }
        }
        fails("trick x worth 1:feet\"" + "-".repeat(1000) + "\";", 1, 20);
    }

    private static void blanks() {
        CHECK.of("blanks (32, 10)");
        stands(" \n \n", 0);
        for (char sign : new char[] {9, 11, 12, 13, 31, 33, 0, 160}) {
            fails(" " + sign, 1, 1);
        }
        stands("\n\ntrick\nx worth\n1\n:\nfeet\n\"-l-r\"\n;\n", 1);
    }

    private static void tokensApartOrNot() {
        CHECK.of("blanks part them or not");
        stands("trick x worth1:feet\"-l-r\"cross0;trick y worth 1 : feet \"-l-r\" cross 0 ;", 2);
        stands(TWO + "off a0 off b1 from l turn1;", 1);
        stands("trick x worth1:feet\"-l-r\"alone;trick y worth1:feet\"-l-r\";", 2);
        routineStands("beats9;at0 2 in left;at1 2 does run;", 2);
    }

    private static void asLongAsCanBe() {
        CHECK.of("words and N as long as can be");
        fails("trickx worth 1:feet\"-l-r\";", 2, 0);
        fails("trick xworth 1:feet\"-l-r\";", 2, 13);
        stands("trick trickx worth 1:feet\"-l-r\";", 1);
        stands("trick xtrick worth 1:feet\"-l-r\";", 1);
        fails("trick x worth 1 2:feet\"-l-r\";", 2, 16);
        fails("trick x worth 9999:feet\"-l-r\";", 1, 14);
        fails(TWO + "crossto 1;", 2, 30);
    }

    private static void letterBehindNumber() {
        CHECK.of("no letter directly behind an N");
        fails("trick x worth 1a:feet\"-l-r\";", 1, 14);
        fails("trick x worth 1z:feet\"-l-r\";", 1, 14);
        fails("trick x worth 999a:feet\"-l-r\";", 1, 14);
        fails(TWO + "cross 0to 1;", 1, 36);
        stands(TWO + "cross 0 to 1;", 1);
        fails("trick x worth 1\"-l-r\"", 2, 15);
        fails("trick x worth 1`", 1, 15);
        fails("trick x worth 1{", 1, 15);
        fails("trick x worth 1A", 1, 15);
        routineFails("beats 9;at 0 2in left;", 1, 13);
        // behind what is no N a letter may stand
        stands(ONE + "alone;", 1);
    }

    private static void ownWordsAreNoNames() {
        CHECK.of("Words that stand for themselves here and in ROUTINES are no NAMES");
        for (String word : OWN_WORDS) {
            fails("trick " + word + " worth 1:feet\"-l-r\";", 2, 6);
            routineFails("beats 9;at 0 2 does " + word + ";", 2, 20);
        }
        for (String word : new String[] {"c", "y", "k", "s", "tricks", "tric", "rights", "ri", "up", "aa", "ab", "mirror", "take", "ins"}) {
            stands("trick " + word + " worth 1:feet\"-l-r\";", 1);
        }
    }

    private static String tricks(int count) {
        StringBuilder all = new StringBuilder();
        for (int i = 0; i < count; i++) {
            all.append("trick t").append((char) ('a' + i)).append(" worth ").append(i).append(":feet\"-l-r\";\n");
        }
        return all.toString();
    }

    private static void twelveTricks() {
        CHECK.of("At most 12 TRICKS (numbered as they are told); 2 one that can't stand there (a 13th trick: at trick)");
        stands(tricks(11), 11);
        stands(tricks(12), 12);
        TwoRopes x = new TwoRopes();
        Check.book(x, tricks(12));
        for (int trick = 0; trick < 12; trick++) {
            CHECK.due("worth of " + trick, x.trick(trick, false, 1), trick);
        }
        fails(tricks(13), 2, tricks(12).length());
        fails(tricks(12) + "trick ta !", 2, tricks(12).length());
        fails(tricks(12) + " trick", 2, tricks(12).length() + 1);
    }

    private static void worthRange() {
        CHECK.of("worth 0 .. 999");
        for (int worth : new int[] {0, 1, 998, 999}) {
            TwoRopes x = new TwoRopes();
            CHECK.due("book", Check.book(x, "trick x worth " + worth + ":feet\"-l-r\";"), 1);
            CHECK.due("worth", x.trick(0, false, 1), worth);
        }
        fails("trick x worth 1000:feet\"-l-r\";", 1, 14);
    }

    private static void modeBeats() {
        CHECK.of("N of cross, off: BEATS of the trick (from 0 on)");
        String[] parts = {"cross ", "off a ", "off b "};
        for (String part : parts) {
            stands(TWO + part + "0;", 1);
            stands(TWO + part + "1;", 1);
            fails(TWO + part + "2;", 4, 30 + part.length());
            fails(ONE + part + "1;", 4, 26 + part.length());
            fails(ONE + part + "999;", 4, 26 + part.length());
            fails(ONE + part + ";", 2, 26 + part.length());
        }
        String eight = "trick x worth 1:feet\"" + "-".repeat(32) + "\"";
        stands(eight + "cross 7;", 1);
        fails(eight + "cross 8;", 4, 60);
        stands(eight + "cross 0 to 7;", 1);
        fails(eight + "cross 0 to 8;", 4, 65);
        fails(ONE + "off c 0;", 2, 30);
        fails(ONE + "off l 0;", 2, 30);
        fails(ONE + "off 0;", 2, 30);
    }

    private static void modeSpan() {
        CHECK.of("N of cross, off: the second not below the first");
        for (String part : new String[] {"cross ", "off a ", "off b "}) {
            int second = 34 + part.length() + 5;
            stands(THREE + part + "0 to 2;", 1);
            stands(THREE + part + "1 to 2;", 1);
            stands(THREE + part + "1 to 1;", 1);
            stands(THREE + part + "2 to 2;", 1);
            fails(THREE + part + "1 to 0;", 4, second);
            fails(THREE + part + "2 to 1;", 4, second);
            fails(THREE + part + "1 to 3;", 4, second);
            fails(THREE + part + "1 to ;", 2, second);
        }
        TwoRopes x = new TwoRopes();
        Check.book(x, "trick x worth 1:feet\"" + "-".repeat(20) + "\"cross 1 to 3;");
        int[] want = {0, 1, 1, 1, 0, -1};
        for (int beat = 0; beat < want.length; beat++) {
            CHECK.due("MODE " + beat, x.trick(0, false, 10 + beat), want[beat]);
        }
    }

    private static void turnRange() {
        CHECK.of("turn 1 .. 3");
        for (int turn = 1; turn <= 3; turn++) {
            stands(ONE + "turn " + turn + ";", 1);
        }
        fails(ONE + "turn 0;", 4, 31);
        fails(ONE + "turn 4;", 4, 31);
        fails(ONE + "turn 999;", 4, 31);
        fails(ONE + "turn;", 2, 30);
    }

    private static void facingRange() {
        CHECK.of("facing 0 .. 3");
        for (int facing = 0; facing <= 3; facing++) {
            stands(ONE + "facing " + facing + ";", 1);
        }
        fails(ONE + "facing 4;", 4, 33);
        fails(ONE + "facing 999;", 4, 33);
        fails(ONE + "facing;", 2, 32);
    }

    private static void fromSides() {
        CHECK.of("from (l | r | b)");
        stands(ONE + "from l;", 1);
        stands(ONE + "from r;", 1);
        stands(ONE + "from b;", 1);
        fails(ONE + "from a;", 2, 31);
        fails(ONE + "from left;", 2, 31);
        fails(ONE + "from 1;", 2, 31);
        fails(ONE + "from;", 2, 30);
    }

    private static void onceEach() {
        CHECK.of("turn, from, facing, alone once each; 2 (a part a second time: at its word)");
        for (String part : new String[] {"turn 2 ", "from b ", "facing 0 ", "facing 3 ", "alone "}) {
            stands(ONE + part + ";", 1);
            fails(ONE + part + part + ";", 2, 26 + part.length());
            // at its word, whatever comes behind it
            fails(ONE + part + part.trim().split(" ")[0] + " !", 2, 26 + part.length());
        }
        stands(ONE + "turn 2 from b facing 0 alone;" + ONE.replace(" x ", " y ") + "alone facing 0 from b turn 2;", 2);
        fails(ONE + "turn 2 alone turn 3;", 2, 39);
        // of each trick anew, and cross and off as often as BEATS are free
        stands(THREE + "cross 0 cross 2 off a 1;", 1);
        stands(THREE + "off a 0 off a 2 off b 1;", 1);
    }

    private static void cannotStandThere() {
        CHECK.of("FAULTS: 2 one that can't stand there");
        // each place of a text with each kind of TOKEN, but for those that can stand there
        String[] kinds = {"zz", "1", "\"-l-r\"", ":", ";", "worth", "to", "l"};
        String[] trick = {"trick", "x", "worth", "1", ":", "feet", "\"-l-r\"", "cross", "0", "turn", "1", "from", "l", "facing", "1", ";"};
        String[] canStand = {"trick", "zz", "worth", "1", ":", "feet", "\"-l-r\"", ";", "", "; to", "1", ";", "l", ";", "1", ";"};
        for (int place = 0; place < trick.length; place++) {
            for (String kind : kinds) {
                if (!(" " + canStand[place] + " ").contains(" " + kind + " ")) {
                    placeFails(trick, place, kind, true);
                }
            }
        }
        String[] routine = {"beats", "9", ";", "at", "0", "2", "does", "run", "mirrored", ";", "at", "0", "2", "in", "left", ";"};
        String[] canRun = {"beats", "1", ";", "at", "1", "1", "does", "zz", ";", ";", "at", "1", "1", "in", "left", ";"};
        for (int place = 0; place < routine.length; place++) {
            for (String kind : kinds) {
                if (!(" " + canRun[place] + " ").contains(" " + kind + " ")) {
                    placeFails(routine, place, kind, false);
                }
            }
        }
    }

    private static void placeFails(String[] tokens, int place, String kind, boolean ofBook) {
        StringBuilder text = new StringBuilder();
        for (int i = 0; i < place; i++) {
            text.append(tokens[i]).append(' ');
        }
        // 1 is no BEAT of that trick: a number can stand there, but not this one
        boolean number = ofBook && place == 8 && kind.equals("1");
        int at = text.length();
        text.append(kind);
        for (int i = place + 1; i < tokens.length; i++) {
            text.append(' ').append(tokens[i]);
        }
        if (ofBook) {
            fails(text.toString(), number ? 4 : 2, at);
        } else {
            routineFails(text.toString(), 2, at);
        }
    }

    private static void firstFaultByPlace() {
        CHECK.of("FAULTS, the first by its place (bytes from 0)");
        fails("trick trick !", 2, 6);
        fails("! trick trick", 1, 0);
        fails(ONE + "turn 0 !", 4, 31);
        fails(ONE + "! turn 0", 1, 26);
        fails(ONE + ";trick x turn 0", 3, 33);
        fails(TWO + "cross 0 cross 0 to 9;", 5, 44);
        fails(TWO + "cross 9 cross 9;", 4, 36);
        routineFails("beats 0;at 9 9 does no;", 4, 6);
        routineFails("beats 1;at 0 9 does no;", 4, 13);
        routineFails("beats 1;at 0 5 does no !", 5, 20);
    }

    private static void faultAtTheEnd() {
        CHECK.of("FAULTS: the end: the text's length");
        String whole = "trick x worth 1 : feet \"-l-r\" cross 0 off a 1 turn 1 from l facing 1 ;";
        int[] cuts = {5, 7, 13, 15, 17, 22, 29, 35, 37};
        for (int cut : cuts) {
            fails(whole.substring(0, cut), 2, cut);
            fails(whole.substring(0, cut) + " \n ", 2, cut + 3);
        }
        fails(ONE + "turn", 2, 30);
        fails(ONE + "from", 2, 30);
        fails(ONE + "facing", 2, 32);
        fails(ONE + "alone", 2, 31);
        fails(ONE + "off", 2, 29);
        fails(ONE + "off a", 2, 31);
        fails(TWO + "cross 0 to", 2, 40);
        routineFails("", 2, 0);
        routineFails("  ", 2, 2);
        String lines = "beats 9 ; at 0 2 does run mirrored ;";
        for (int cut : new int[] {5, 7, 12, 14, 16, 21, 25, 34}) {
            routineFails(lines.substring(0, cut), 2, cut);
        }
        routineFails("beats 9;at 0 2 in", 2, 17);
        routineFails("beats 9;at 0 2 takes left", 2, 25);
    }

    private static void leastFaultAtOnePlace() {
        CHECK.of("FAULTS: at one place the least");
        // no TOKEN ahead of one that can't stand there, of a 13th trick and of a 61st line
        fails("trick x worth 1:feet\"-l-r\"1234;", 1, 26);
        fails(tricks(12) + "!", 1, tricks(12).length());
        routineFails("beats 9;" + "at 0 2 in left;".repeat(60) + "!", 1, 8 + 60 * 15);
        fails("trick ninelette", 1, 6);
        // a number that can't be ahead of a BEAT that has a MODE
        fails(TWO + "cross 1 off a 0 to 9;", 4, 49);
        fails(THREE + "cross 0 to 1 off a 2 to 1;", 4, 58);
        // one that can't stand there ahead of a NAME told already: own words are never told
        fails(ONE + ";trick trick", 2, 33);
    }

    private static void nameToldAlready() {
        CHECK.of("FAULTS: 3 a NAME told already");
        fails(ONE + ";" + ONE + ";", 3, 33);
        fails(ONE + ";trick y worth 1:feet\"-l-r\";trick x", 3, 60);
        fails(ONE + ";trick y worth 1:feet\"-l-r\";trick y", 3, 60);
        stands(ONE + ";trick xx worth 1:feet\"-l-r\";trick xxx worth 1:feet\"-l-r\";", 3);
        StringBuilder all = new StringBuilder();
        for (String name : new String[] {"c", "bc", "ac", "ca", "bbc", "aac", "cc", "abc", "bac", "cab", "acb", "aaaaaaac"}) {
            all.append("trick ").append(name).append(" worth 1:feet\"-l-r\";");
        }
        stands(all.toString(), 12);
        String twelve = tricks(11);
        fails(twelve + "trick tk", 3, twelve.length() + 6);
        fails(twelve + "trick ta", 3, twelve.length() + 6);
        // told in an earlier BOOK it may be told anew
        TwoRopes x = new TwoRopes();
        Check.book(x, ONE + ";");
        CHECK.due("anew", Check.book(x, ONE + ";"), 1);
    }

    private static void modeAlready() {
        CHECK.of("FAULTS: 5 a BEAT that has a MODE already: at the N, or the second N, by which it has");
        fails(TWO + "cross 0 cross 0;", 5, 44);
        fails(TWO + "cross 0 off a 0;", 5, 44);
        fails(TWO + "off a 0 off b 0;", 5, 44);
        fails(TWO + "off b 1 off b 1;", 5, 44);
        fails(THREE + "cross 2 off a 0 to 2;", 5, 53);
        fails(THREE + "cross 1 off a 0 to 2;", 5, 53);
        fails(THREE + "cross 0 to 1 off a 1 to 2;", 5, 53);
        fails(THREE + "cross 1 to 2 off a 2;", 5, 53);
        stands(THREE + "cross 2 off a 0 to 1;", 1);
        stands(THREE + "cross 0 off a 1 to 2;", 1);
        stands(THREE + "cross 1 off a 0 to 0 off b 2 to 2;", 1);
    }

    // ---- part 2: the ROUTINE

    private static void routineLongest() {
        CHECK.of("A ROUTINE is a text of at most 1,400 bytes");
        routineStands("beats 9" + " ".repeat(1392) + ";", 0);
        routineFails("beats 9;" + " ".repeat(1391) + "!", 1, 1399);
        routineFails("beats 9" + " ".repeat(1393), 2, 1400);
    }

    private static void beatsRange() {
        CHECK.of("beats' N 1 .. 200");
        for (int beats : new int[] {1, 2, 199, 200}) {
            TwoRopes x = yard();
            CHECK.due("routine", Check.routine(x, "beats " + beats + ";"), 0);
            x.run();
            CHECK.due("BEATS", x.ran(0), beats);
            CHECK.due("last", x.mode(beats - 1), 0);
            CHECK.due("behind it", x.mode(beats), -1);
        }
        routineFails("beats 0;", 4, 6);
        routineFails("beats 201;", 4, 6);
        routineFails("beats 999;", 4, 6);
    }

    private static void atBeat() {
        CHECK.of("at: the BEAT (0 .. 199, below beats' N, and not below that of the line ahead)");
        routineStands("beats 200;at 0 2 in left;at 199 2 in left;", 2);
        routineFails("beats 200;at 200 2 in left;", 4, 13);
        routineStands("beats 1;at 0 2 in left;", 1);
        routineFails("beats 1;at 1 2 in left;", 4, 11);
        routineStands("beats 9;at 8 2 in left;", 1);
        routineFails("beats 9;at 9 2 in left;", 4, 11);
        routineStands("beats 9;at 4 2 in left;at 4 2 in left;at 5 2 in left;", 3);
        routineFails("beats 9;at 4 2 in left;at 3 2 in left;", 4, 26);
        routineFails("beats 9;at 4 2 in left;at 5 2 in left;at 4 2 in left;", 4, 41);
        routineFails("beats 9;at 4 2 in left;at 9 2 in left;", 4, 26);
    }

    private static void atPerson() {
        CHECK.of("at: then the PERSON (0 .. 5)");
        for (int person = 0; person <= 5; person++) {
            routineStands("beats 9;at 0 " + person + " in left;", 1);
        }
        routineFails("beats 9;at 0 6 in left;", 4, 13);
        routineFails("beats 9;at 0 999 in left;", 4, 13);
    }

    private static void acts() {
        CHECK.of("act = in (left | right) | out (left | right) | does NAME [mirrored] | takes (left | right)");
        for (String act : new String[] {"in", "out", "takes"}) {
            routineStands("beats 9;at 0 2 " + act + " left;at 0 2 " + act + " right;", 2);
            for (String side : new String[] {"l", "r", "run", "mirrored", "1", ";"}) {
                routineFails("beats 9;at 0 2 " + act + " " + side + ";", 2, 16 + act.length());
            }
            routineFails("beats 9;at 0 2 " + act + " left mirrored;", 2, 21 + act.length());
        }
        routineStands("beats 9;at 0 2 does run;at 0 2 does run mirrored;", 2);
        routineFails("beats 9;at 0 2 does run mirrored mirrored;", 2, 33);
        routineFails("beats 9;at 0 2 run;", 2, 15);
        routineFails("beats 9;at 0 2;", 2, 14);
        routineFails("beats 9;at 0 in left;", 2, 13);
        routineFails("beats 9;at in left;", 2, 11);
        routineFails("beats 9;in left;", 2, 8);
        routineFails("beats 9;;", 2, 8);
        routineFails("beats 9 at 0 2 in left;", 2, 8);
        routineFails("beats;", 2, 5);
        routineFails("trick", 2, 0);
    }

    private static void sixtyLines() {
        CHECK.of("At most 60 lines. FAULTS: 2 (a 61st line: at its at)");
        String line = "at 0 2 in left;";
        routineStands("beats 9;" + line.repeat(59), 59);
        routineStands("beats 9;" + line.repeat(60), 60);
        routineFails("beats 9;" + line.repeat(61), 2, 8 + 60 * 15);
        routineFails("beats 9;" + line.repeat(60) + " at !", 2, 9 + 60 * 15);
    }

    private static void nameOfNoTrick() {
        CHECK.of("FAULTS: 5 a NAME of no trick");
        routineStands("beats 9;at 0 2 does run;at 0 2 does hop;", 2);
        routineFails("beats 9;at 0 2 does runs;", 5, 20);
        routineFails("beats 9;at 0 2 does ru;", 5, 20);
        routineFails("beats 9;at 0 2 does x mirrored;", 5, 20);
        TwoRopes x = new TwoRopes();
        CHECK.due("of an empty BOOK", Check.routine(x, "beats 9;at 0 2 does run;"), -1);
        CHECK.due("FAULT", x.fault(0), 5);
        Check.book(x, tricks(12));
        CHECK.due("the last of twelve", Check.routine(x, "beats 9;at 0 2 does tl;"), 1);
        CHECK.due("behind it", Check.routine(x, "beats 9;at 0 2 does tm;"), -1);
        Check.book(x, tricks(2));
        CHECK.due("of the BOOK before", Check.routine(x, "beats 9;at 0 2 does tc;"), -1);
        CHECK.due("FAULT", x.fault(0), 5);
    }
}

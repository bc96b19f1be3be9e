/** Promises 22 to 29: each sentence that names a boundary case has a test of its own. */
public final class EdgeJudgeTest {
    private static final Check CHECK = new Check("EdgeJudgeTest");
    private static final int MIN = Integer.MIN_VALUE;
    private static final int MAX = Integer.MAX_VALUE;

    public static void main(String[] args) {
        tapeNoSign();
        tapeTooLong();
        tapeNoneSuch();
        tapeThirty();
        tapesAllFull();
        tapeEmpty();
        untellTwice();
        untellNone();
        laterRange();
        laterTooLate();
        behindLastTick();
        seenCannotBe();
        seenOpen();
        lastTape();
        gaps();
        atKOrBefore();
        untoldAtOnce();
        oneSign();
        stepsCannotBe();
        stepsBothEnds();
        stepsLeastAndMost();
        toldCannotBe();
        toldDegrees();
        toldBehindLastTick();
        slipNone();
        slipTicks();
        slipSureOrMaybe();
        slipLastTick();
        aboutOtherWhat();
        aboutCounts();
        CHECK.finish();
    }

    // ---- promise 22

    private static void tapeNoSign() {
        CHECK.of("22: NONE: a byte is no sign (none comes)");
        for (char sign : new char[] {0, ' ', '\n', '.', ',', '>', '@', 'L', 'R', 'B', 'a', 'c', 'k', 'm', 'q', 's', '_', 127, 173, 255}) {
            TwoRopes x = new TwoRopes();
            CHECK.due("all signs", Check.tape(x, "-lrb?", 0, 0, 0), 0);
            for (String text : new String[] {"" + sign, "rrrrrr" + sign, sign + "rrrrrr", "r".repeat(199) + sign}) {
                CHECK.due("sign " + (int) sign, Check.tape(x, text, 1, 0, 0), -1);
                CHECK.due("TAPES", x.about(2), 1);
                CHECK.due("the TAPE is empty", x.about(5), 0);
            }
            CHECK.due("nothing was told", x.seen(0, 1, 0), 1);
            CHECK.due("the next number", Check.tape(x, "l", 1, 0, 0), 1);
            CHECK.due("nothing is left of it", x.seen(0, 5, 0), 4);
        }
    }

    private static void tapeTooLong() {
        CHECK.of("22: -2, and the TAPE stays: more than 200");
        TwoRopes x = new TwoRopes();
        for (int length : new int[] {201, 202, 1400}) {
            x.end(0);
            Check.put(x, "l".repeat(length));
            CHECK.due(length + " signs", x.tape(0, 0, 0), -2);
            CHECK.due("the TAPE stays", x.about(5), length);
            CHECK.due("TAPES", x.about(2), 0);
        }
        x.end(200);
        CHECK.due("200 signs", x.tape(0, 0, 0), 0);
        CHECK.due("the last one", x.seen(0, 199, 0), 1);
        CHECK.due("behind it", x.seen(0, 200, 0), 4);
        Check.put(x, "x".repeat(201));
        CHECK.due("ahead of no sign", x.tape(0, 0, 0), -2);
        CHECK.due("the TAPE stays", x.about(5), 201);
    }

    private static void tapeNoneSuch() {
        CHECK.of("22: -2, and the TAPE stays: none such (a JUDGE 0 .. 2, a PERSON 0 .. 5, a BEAT 0 .. 199)");
        TwoRopes x = new TwoRopes();
        Check.put(x, "lr");
        int[][] wrong = {{-1, 0, 0}, {3, 0, 0}, {MIN, 0, 0}, {MAX, 0, 0}, {0, -1, 0}, {0, 6, 0}, {0, MIN, 0}, {0, MAX, 0},
            {0, 0, -1}, {0, 0, 200}, {0, 0, MIN}, {0, 0, MAX}};
        for (int[] w : wrong) {
            CHECK.due("tape", x.tape(w[0], w[1], w[2]), -2);
            CHECK.due("the TAPE stays", x.about(5), 2);
            CHECK.due("TAPES", x.about(2), 0);
        }
        int[][] good = {{0, 0, 0}, {2, 5, 199}, {1, 4, 198}};
        for (int i = 0; i < good.length; i++) {
            x.end(0);
            CHECK.due("tape", Check.tape(x, "lr", good[i][0], good[i][1], good[i][2]), i);
            CHECK.due("first sign", x.seen(good[i][1], 4 * good[i][2], 0), 1);
            CHECK.due("second sign", x.seen(good[i][1], 4 * good[i][2] + 1, 0), 2);
        }
    }

    private static void tapeThirty() {
        CHECK.of("22: -2, and the TAPE stays: there are 30");
        TwoRopes x = new TwoRopes();
        for (int i = 0; i < 30; i++) {
            CHECK.due("tape " + i, Check.tape(x, i == 29 ? "b" : "l", 0, 0, i), i);
        }
        CHECK.due("UNTOLD ones count, too", x.untell(5), true);
        Check.put(x, "lrb");
        CHECK.due("a 31st", x.tape(0, 0, 0), -2);
        CHECK.due("the TAPE stays", x.about(5), 3);
        CHECK.due("TAPES", x.about(2), 30);
        CHECK.due("the last one", x.seen(0, 116, 0), 3);
        CHECK.due("the first one", x.seen(0, 0, 0), 1);
        CHECK.due("the UNTOLD one", x.seen(0, 20, 0), 4);
    }

    private static void tapesAllFull() {
        CHECK.of("TAPES, 30 at most: signs (at most 200): thirty of 200 signs each, none mixed with another");
        TwoRopes x = new TwoRopes();
        String signs = "-lrb";
        for (int i = 0; i < 30; i++) {
            char last = signs.charAt(i % 4);
            CHECK.due("tape " + i, Check.tape(x, "?".repeat(i) + "lr" + "?".repeat(197 - i) + last, i / 6 % 3, i % 6, i / 6), i);
        }
        for (int i = 0; i < 30; i++) {
            int first = 4 * (i / 6);
            CHECK.due("sign " + i, x.seen(i % 6, first + i, 0), 1);
            CHECK.due("sign " + (i + 1), x.seen(i % 6, first + i + 1, 0), 2);
            CHECK.due("the last sign of " + i, x.seen(i % 6, first + 199, 0), i % 4);
        }
    }

    private static void tapeEmpty() {
        CHECK.of("22: The TAPE (empty then) is a TAPE of a JUDGE: its number (signs, at most 200: none, too)");
        TwoRopes x = new TwoRopes();
        CHECK.due("an empty one", x.tape(0, 0, 0), 0);
        CHECK.due("TAPES", x.about(2), 1);
        CHECK.due("it tells nothing", x.seen(0, 0, 0), 4);
        CHECK.due("the next", Check.tape(x, "l", 0, 0, 0), 1);
        CHECK.due("the TAPE is empty", x.about(5), 0);
        CHECK.due("an empty one again", x.tape(0, 0, 0), 2);
        CHECK.due("the one before tells", x.seen(0, 0, 0), 1);
        CHECK.due("it can be UNTOLD", x.untell(2), true);
    }

    // ---- promises 23 and 24

    private static void untellTwice() {
        CHECK.of("23: It is UNTOLD: true; false if it is so already");
        TwoRopes x = new TwoRopes();
        Check.tape(x, "l", 0, 0, 0);
        x.later(5);
        CHECK.due("untell", x.untell(0), true);
        CHECK.due("at once again", x.untell(0), false);
        x.later(5);
        CHECK.due("later again", x.untell(0), false);
        CHECK.due("the first time counts", x.seen(0, 0, 4), 1);
        CHECK.due("the first time counts", x.seen(0, 0, 5), 4);
    }

    private static void untellNone() {
        CHECK.of("23: false if there is none such");
        TwoRopes x = new TwoRopes();
        CHECK.due("untell(0) of none", x.untell(0), false);
        Check.tape(x, "l", 0, 0, 0);
        Check.tape(x, "r", 0, 0, 1);
        for (int tape : new int[] {-1, 2, 3, 29, 30, 31, MIN, MAX}) {
            CHECK.due("untell(" + tape + ")", x.untell(tape), false);
        }
        CHECK.due("both tell", x.seen(0, 0, 0) * 10 + x.seen(0, 4, 0), 12);
        CHECK.due("the last", x.untell(1), true);
        CHECK.due("one tells", x.seen(0, 0, 0) * 10 + x.seen(0, 4, 0), 14);
        CHECK.due("the first", x.untell(0), true);
    }

    private static void laterRange() {
        CHECK.of("24: So much later (0 .. 1000): the TIME; NONE, doing nothing, for another number");
        TwoRopes x = new TwoRopes();
        CHECK.due("later(0)", x.later(0), 0);
        CHECK.due("later(1)", x.later(1), 1);
        CHECK.due("later(1000)", x.later(1000), 1001);
        for (int by : new int[] {-1, -1000, 1001, 1002, MIN, MAX}) {
            CHECK.due("later(" + by + ")", x.later(by), -1);
            CHECK.due("TIME", x.about(3), 1001);
        }
    }

    private static void laterTooLate() {
        CHECK.of("24: NONE, doing nothing, if it would be above 100,000");
        TwoRopes x = new TwoRopes();
        for (int i = 1; i <= 99; i++) {
            CHECK.due("later", x.later(1000), 1000 * i);
        }
        CHECK.due("later(1)", x.later(1), 99001);
        CHECK.due("100,001 it would be", x.later(1000), -1);
        CHECK.due("TIME", x.about(3), 99001);
        CHECK.due("100,000 it is", x.later(999), 100000);
        CHECK.due("later(1)", x.later(1), -1);
        CHECK.due("later(0)", x.later(0), 100000);
        CHECK.due("TAPES still come", Check.tape(x, "l", 0, 0, 0), 0);
        CHECK.due("before", x.seen(0, 0, 99999), 4);
        CHECK.due("then", x.seen(0, 0, 100000), 1);
    }

    // ---- part 5 and promise 25

    private static void behindLastTick() {
        CHECK.of("TAPES: behind TICK 799 they tell nothing");
        TwoRopes x = new TwoRopes();
        CHECK.due("tape", Check.tape(x, "lrbrlrlr", 0, 0, 199), 0);
        int[] want = {4, 1, 2, 3, 2, -1, -1};
        for (int i = 0; i < want.length; i++) {
            CHECK.due("seen " + (795 + i), x.seen(0, 795 + i, 0), want[i]);
        }
        CHECK.due("nothing at the beginning", x.seen(0, 0, 0), 4);
        CHECK.due("a long one", Check.tape(x, "b".repeat(200), 0, 0, 199), 1);
        CHECK.due("last", x.seen(0, 799, 0), 3);
        CHECK.due("nothing at the beginning", x.seen(0, 0, 0), 4);
        CHECK.due("nothing of another", x.seen(1, 0, 0), 4);
    }

    private static void seenCannotBe() {
        CHECK.of("25: a PERSON at a TICK (0 .. 799); NONE if one can't be");
        TwoRopes x = new TwoRopes();
        Check.tape(x, "l", 0, 0, 0);
        Check.tape(x, "r".repeat(4), 0, 5, 199);
        CHECK.due("first", x.seen(0, 0, 0), 1);
        CHECK.due("last", x.seen(5, 799, 0), 2);
        for (int person : new int[] {-1, 6, 7, MIN, MAX}) {
            CHECK.due("person " + person, x.seen(person, 0, 0), -1);
        }
        for (int tick : new int[] {-1, -4, 800, 801, MIN, MAX}) {
            CHECK.due("tick " + tick, x.seen(0, tick, 0), -1);
            CHECK.due("tick " + tick, x.seen(5, tick, 0), -1);
        }
    }

    private static void seenOpen() {
        CHECK.of("25: 4 if it is open; which feet are down");
        TwoRopes x = new TwoRopes();
        CHECK.due("no TAPES", x.seen(0, 0, 0), 4);
        Check.tape(x, "-lrb?", 1, 3, 10);
        int[] want = {4, 0, 1, 2, 3, 4, 4};
        for (int i = 0; i < want.length; i++) {
            CHECK.due("seen " + (39 + i), x.seen(3, 39 + i, 0), want[i]);
            CHECK.due("of the PERSON ahead", x.seen(2, 39 + i, 0), 4);
            CHECK.due("of the PERSON behind", x.seen(4, 39 + i, 0), 4);
        }
    }

    private static void lastTape() {
        CHECK.of("a JUDGE saw what that one's last TAPE tells");
        TwoRopes x = new TwoRopes();
        Check.tape(x, "llll", 0, 0, 0);
        Check.tape(x, "-r", 0, 0, 0);
        Check.tape(x, "b", 0, 0, 0);
        Check.tape(x, "rrrr", 0, 1, 0);
        int[] want = {3, 2, 1, 1, 4};
        for (int tick = 0; tick < want.length; tick++) {
            CHECK.due("seen " + tick, x.seen(0, tick, 0), want[tick]);
        }
        x.untell(2);
        CHECK.due("the one before", x.seen(0, 0, 0), 0);
        x.untell(0);
        CHECK.due("none", x.seen(0, 2, 0), 4);
        // the last one, though it is told of an earlier BEAT
        Check.tape(x, "r".repeat(5), 0, 2, 1);
        Check.tape(x, "l".repeat(5), 0, 2, 0);
        CHECK.due("both tell", x.seen(2, 4, 0), 1);
        CHECK.due("one tells", x.seen(2, 5, 0), 2);
    }

    private static void gaps() {
        CHECK.of("that has a sign there that is not ?");
        TwoRopes x = new TwoRopes();
        Check.tape(x, "lrb-", 0, 0, 0);
        Check.tape(x, "????", 0, 0, 0);
        Check.tape(x, "?-??", 0, 0, 0);
        int[] want = {1, 0, 3, 0, 4};
        for (int tick = 0; tick < want.length; tick++) {
            CHECK.due("seen " + tick, x.seen(0, tick, 0), want[tick]);
        }
        Check.tape(x, "r???", 1, 0, 0);
        CHECK.due("one more JUDGE, another sign", x.seen(0, 0, 0), 4);
        CHECK.due("one more JUDGE, nothing seen", x.seen(0, 1, 0), 0);
        CHECK.due("? alone", Check.tape(x, "????", 2, 1, 0), 4);
        CHECK.due("nobody saw", x.seen(1, 0, 0), 4);
    }

    private static void atKOrBefore() {
        CHECK.of("TOLD at k or before, not UNTOLD at k or before");
        TwoRopes x = new TwoRopes();
        x.later(10);
        Check.tape(x, "l", 0, 0, 0);
        x.later(10);
        Check.tape(x, "r", 0, 0, 0);
        x.later(10);
        x.untell(1);
        x.later(10);
        x.untell(0);
        int[][] want = {{MIN, 4}, {-1, 4}, {0, 4}, {9, 4}, {10, 1}, {11, 1}, {19, 1}, {20, 2}, {21, 2}, {29, 2}, {30, 1}, {31, 1}, {39, 1},
            {40, 4}, {41, 4}, {100000, 4}, {MAX, 4}};
        for (int[] w : want) {
            CHECK.due("seen at " + w[0], x.seen(0, 0, w[0]), w[1]);
            CHECK.due("steps at " + w[0], x.steps(0, 1, 0, 0, false, w[0]), w[1] == 1 ? 1 : 0);
        }
    }

    private static void untoldAtOnce() {
        CHECK.of("UNTOLD at a later one or the same");
        TwoRopes x = new TwoRopes();
        x.later(3);
        Check.tape(x, "l", 0, 0, 0);
        CHECK.due("TOLD", x.seen(0, 0, 3), 1);
        x.untell(0);
        for (int k : new int[] {2, 3, 4}) {
            CHECK.due("never seen", x.seen(0, 0, k), 4);
        }
    }

    private static void oneSign() {
        CHECK.of("SEEN is what all JUDGES saw who saw anything, if that is one sign; else it is open");
        TwoRopes x = new TwoRopes();
        Check.tape(x, "lll-lb", 0, 0, 0);
        Check.tape(x, "ll?-rl", 1, 0, 0);
        Check.tape(x, "lr??ll", 2, 0, 0);
        int[] want = {1, 4, 1, 0, 4, 4, 4};
        for (int tick = 0; tick < want.length; tick++) {
            CHECK.due("seen " + tick, x.seen(0, tick, 0), want[tick]);
        }
        // two TAPES of one JUDGE are no two JUDGES
        Check.tape(x, "???-?r", 1, 0, 0);
        Check.tape(x, "????lr", 1, 0, 0);
        Check.tape(x, "?????r", 2, 0, 0);
        CHECK.due("told anew", x.seen(0, 4, 0), 1);
        CHECK.due("not all anew", x.seen(0, 5, 0), 4);
        Check.tape(x, "?????r", 0, 0, 0);
        CHECK.due("all anew", x.seen(0, 5, 0), 2);
    }

    // ---- promise 26

    private static void stepsCannotBe() {
        CHECK.of("26: a foot (1 l, 2 r) of a PERSON from TICK x to y; NONE if one can't be");
        TwoRopes x = new TwoRopes();
        int[][] wrong = {{-1, 1, 0, 9}, {6, 1, 0, 9}, {MIN, 1, 0, 9}, {MAX, 1, 0, 9}, {0, 0, 0, 9}, {0, 3, 0, 9}, {0, 4, 0, 9}, {0, -1, 0, 9},
            {0, MIN, 0, 9}, {0, MAX, 0, 9}, {0, 1, -1, 9}, {0, 1, 0, 800}, {0, 1, 800, 800}, {0, 1, -1, -1}, {0, 1, MIN, 9}, {0, 1, 0, MAX},
            {0, 1, MIN, MAX}, {0, 1, 9, 8}, {0, 1, 799, 0}, {0, 1, 1, 0}};
        for (int[] w : wrong) {
            CHECK.due("steps", x.steps(w[0], w[1], w[2], w[3], true, 0), -1);
            CHECK.due("steps", x.steps(w[0], w[1], w[2], w[3], false, 0), -1);
        }
        CHECK.due("all TICKS", x.steps(5, 2, 0, 799, true, 0), 800);
        CHECK.due("all TICKS", x.steps(0, 1, 0, 799, false, 0), 0);
    }

    private static void stepsBothEnds() {
        CHECK.of("26: from TICK x to y (both in it)");
        TwoRopes x = new TwoRopes();
        Check.tape(x, "-l-l-", 0, 0, 0);
        int[][] want = {{1, 1, 1}, {0, 0, 0}, {1, 3, 2}, {0, 1, 1}, {1, 2, 1}, {2, 3, 1}, {3, 3, 1}, {2, 2, 0}, {0, 4, 2}};
        for (int[] w : want) {
            CHECK.due("steps " + w[0] + " to " + w[1], x.steps(0, 1, w[0], w[1], false, 0), w[2]);
            CHECK.due("most " + w[0] + " to " + w[1], x.steps(0, 1, w[0], w[1], true, 0), w[2]);
        }
        Check.tape(x, "--lb", 0, 0, 199);
        CHECK.due("the last TICKS", x.steps(0, 1, 798, 799, false, 0), 2);
        CHECK.due("the last TICK", x.steps(0, 2, 799, 799, false, 0), 1);
    }

    private static void stepsLeastAndMost() {
        CHECK.of("STEPS: those SEEN as l or b, r or b by foot: least; with those that are open: most");
        TwoRopes x = new TwoRopes();
        Check.tape(x, "-lrb?l", 0, 0, 0);
        Check.tape(x, "?????r", 1, 0, 0);
        int[][] least = {{0, 0}, {1, 0}, {0, 1}, {1, 1}, {0, 0}, {0, 0}};
        int[] open = {0, 0, 0, 0, 1, 1};
        for (int tick = 0; tick < 6; tick++) {
            for (int foot = 1; foot <= 2; foot++) {
                CHECK.due("least " + tick, x.steps(0, foot, tick, tick, false, 0), least[tick][foot - 1]);
                CHECK.due("most " + tick, x.steps(0, foot, tick, tick, true, 0), least[tick][foot - 1] + open[tick]);
            }
        }
        CHECK.due("not known yet", x.steps(0, 1, 0, 5, true, -1), 6);
        CHECK.due("not known yet", x.steps(0, 1, 0, 5, false, -1), 0);
    }

    // ---- promise 27

    private static void toldCannotBe() {
        CHECK.of("27: TOLD of a trick at a BEAT (0 .. 199); NONE if one can't be");
        TwoRopes x = new TwoRopes();
        CHECK.due("no tricks", x.told(0, 0, 0, false, 0), -1);
        Check.book(x, "trick x worth 1:feet\"-l-r\";trick y worth 1:feet\"-b--\";");
        int[][] wrong = {{-1, 0, 0}, {6, 0, 0}, {MIN, 0, 0}, {MAX, 0, 0}, {0, -1, 0}, {0, 200, 0}, {0, MIN, 0}, {0, MAX, 0},
            {0, 0, -1}, {0, 0, 2}, {0, 0, 12}, {0, 0, MIN}, {0, 0, MAX}};
        for (int[] w : wrong) {
            CHECK.due("told", x.told(w[0], w[1], w[2], false, 0), -1);
            CHECK.due("told", x.told(w[0], w[1], w[2], true, 0), -1);
        }
        CHECK.due("first", x.told(0, 0, 0, false, 0), 1);
        CHECK.due("last", x.told(5, 199, 1, true, 0), 1);
    }

    private static void toldDegrees() {
        CHECK.of("TOLD of a trick (mirrored or not): 2 if all its signs are SEEN so, 1 if none is SEEN otherwise, 0 else");
        TwoRopes x = new TwoRopes();
        Check.book(x, "trick x worth 1:feet\"-l-r-b--\";");
        String[] signs = {"", "-l-r-b--", "-l-r-b-", "?l-r-b--", "-r-l-b--", "-l-r-b-l", "b???????", "-l-r-l--", "????????", "-??????l"};
        int[] plain = {1, 2, 1, 1, 0, 0, 0, 0, 1, 0};
        int[] mirrored = {1, 0, 0, 0, 2, 0, 0, 0, 1, 0};
        for (int i = 0; i < signs.length; i++) {
            int person = i % 6;
            int beat = 10 * (i + 1);
            Check.tape(x, signs[i], 0, person, beat);
            CHECK.due("told " + signs[i], x.told(person, beat, 0, false, 0), plain[i]);
            CHECK.due("told mirrored " + signs[i], x.told(person, beat, 0, true, 0), mirrored[i]);
        }
        CHECK.due("as known before", x.told(1, 20, 0, false, -1), 1);
    }

    private static void toldBehindLastTick() {
        CHECK.of("27 with 5: behind TICK 799 TAPES tell nothing: none of those signs is SEEN");
        TwoRopes x = new TwoRopes();
        Check.book(x, "trick x worth 1:feet\"-l-r\";trick y worth 1:feet\"-l-r-l-r\";");
        Check.tape(x, "-l-r-l-r", 0, 0, 199);
        CHECK.due("one that ends with it", x.told(0, 199, 0, false, 0), 2);
        CHECK.due("one that goes beyond", x.told(0, 199, 1, false, 0), 1);
        CHECK.due("one that is otherwise", x.told(0, 199, 1, true, 0), 0);
        Check.tape(x, "-l-r-l-r", 0, 0, 198);
        CHECK.due("two BEATS up to the end", x.told(0, 198, 1, false, 0), 2);
    }

    // ---- promise 28

    private static TwoRopes yard(String lines) {
        TwoRopes x = new TwoRopes();
        Check.book(x, "trick crs worth 1:feet\"-l-r\"cross 0;trick aof worth 1:feet\"-l-r\"off a 0;trick bof worth 1:feet\"-l-r\"off b 0;"
            + "trick bad worth 1:feet\"l---\";");
        if (Check.routine(x, lines) < 0) {
            CHECK.due("FAULT of " + lines, x.fault(0), 0);
        }
        return x;
    }

    private static void slipNone() {
        CHECK.of("28: NONE if there is none, no ROUTINE was run, or no such PERSON");
        TwoRopes x = yard("beats 2;");
        CHECK.due("not run", x.slip(0, false, 0), -1);
        CHECK.due("not run", x.slip(0, true, 0), -1);
        x.run();
        CHECK.due("all open", x.slip(0, false, 0), 0);
        CHECK.due("none for sure", x.slip(0, true, 0), -1);
        for (int person : new int[] {-1, 6, MIN, MAX}) {
            CHECK.due("person " + person, x.slip(person, false, 0), -1);
            CHECK.due("person " + person, x.slip(person, true, 0), -1);
        }
        CHECK.due("last PERSON", x.slip(5, false, 0), 0);
        Check.tape(x, "-b-b-b-b", 0, 0, 0);
        CHECK.due("none", x.slip(0, false, 0), -1);
        CHECK.due("none", x.slip(0, true, 0), -1);
        Check.routine(x, "beats 2;");
        CHECK.due("not run", x.slip(1, false, 0), -1);
    }

    private static void slipTicks() {
        CHECK.of("SLIPS: TICKS at which a rope passed in it (by its MODES) and at which a foot is SEEN down");
        // BEAT 0 plain, 1 crossed, 2 a off, 3 b off, 4 plain and broken off, 5 still, 6 plain
        String lines = "beats 7;at 0 2 in left;at 1 2 does crs;at 2 2 does aof;at 3 2 does bof;at 4 2 does bad;";
        String passing = "x-x-" + "x---" + "--x-" + "x---" + "x-x-" + "----" + "x-x-";
        for (char foot : new char[] {'l', 'r', 'b'}) {
            for (int tick = 0; tick < 28; tick++) {
                TwoRopes x = yard(lines);
                x.rules(1, 0);
                x.run();
                StringBuilder signs = new StringBuilder("-".repeat(28));
                signs.setCharAt(tick, foot);
                Check.tape(x, signs.toString(), 0, 3, 0);
                int want = passing.charAt(tick) == 'x' ? tick : -1;
                CHECK.due("slip for sure " + tick, x.slip(3, true, 0), want);
                CHECK.due("slip that may be " + tick, x.slip(3, false, 0), want);
                CHECK.due("of another", x.slip(2, true, 0), -1);
            }
        }
    }

    private static void slipSureOrMaybe() {
        CHECK.of("SLIPS: the first one for sure; the first that may be (SEEN so, or open)");
        TwoRopes x = yard("beats 4;");
        x.run();
        Check.tape(x, "----?---l-r-----", 0, 0, 0);
        CHECK.due("sure", x.slip(0, true, 0), 8);
        CHECK.due("may be", x.slip(0, false, 0), 4);
        Check.tape(x, "-", 0, 0, 1);
        CHECK.due("may be, SEEN so", x.slip(0, false, 0), 8);
        Check.tape(x, "-", 1, 0, 2);
        CHECK.due("JUDGES differ: not sure", x.slip(0, true, 0), 10);
        CHECK.due("JUDGES differ: open", x.slip(0, false, 0), 8);
        x.later(1);
        Check.tape(x, "---", 0, 0, 2);
        CHECK.due("none", x.slip(0, true, 1), -1);
        CHECK.due("as known before", x.slip(0, true, 0), 10);
        CHECK.due("none", x.slip(0, false, 1), -1);
    }

    private static void slipLastTick() {
        CHECK.of("SLIPS in a ROUTINE that was run: none behind its last BEAT");
        TwoRopes x = yard("beats 2;");
        x.run();
        Check.tape(x, "--------l", 0, 0, 0);
        CHECK.due("behind it", x.slip(0, true, 0), -1);
        CHECK.due("behind it", x.slip(0, false, 0), -1);
        x = yard("beats 200;");
        x.run();
        for (int beat = 0; beat < 200; beat += 50) {
            Check.tape(x, "-".repeat(200), 0, 0, beat);
        }
        CHECK.due("none", x.slip(0, false, 0), -1);
        Check.tape(x, "l", 0, 0, 199);
        CHECK.due("in the last BEAT", x.slip(0, true, 0), 796);
        Check.tape(x, "--r-", 0, 0, 199);
        CHECK.due("at the last TICK that a rope passes", x.slip(0, true, 0), 798);
    }

    // ---- promise 29

    private static void aboutOtherWhat() {
        CHECK.of("29: NONE for another what");
        TwoRopes x = new TwoRopes();
        for (int what : new int[] {-1, 8, 9, MIN, MAX}) {
            CHECK.due("about(" + what + ")", x.about(what), -1);
        }
    }

    private static void about(TwoRopes x, int... want) {
        for (int what = 0; what < want.length; what++) {
            CHECK.due("about(" + what + ")", x.about(what), want[what]);
        }
    }

    private static void aboutCounts() {
        CHECK.of("29: What 0: tricks, 1: lines of the ROUTINE, 2: TAPES (UNTOLD ones, too), 3: the TIME, 4: words, 5: bytes, 6: STOP, 7: PENALTY");
        TwoRopes x = new TwoRopes();
        about(x, 0, 0, 0, 0, 0, 0, 4, 10);
        Check.book(x, "trick x worth 1:feet\"-l-r\";");
        about(x, 1, 0, 0, 0, 0, 0, 4, 10);
        Check.routine(x, "beats 9;at 0 2 in left;at 1 2 out left;");
        about(x, 1, 2, 0, 0, 0, 0, 4, 10);
        Check.tape(x, "l", 0, 0, 0);
        Check.tape(x, "l", 0, 0, 0);
        Check.tape(x, "l", 0, 0, 0);
        x.untell(1);
        about(x, 1, 2, 3, 0, 0, 0, 4, 10);
        x.later(1000);
        about(x, 1, 2, 3, 1000, 0, 0, 4, 10);
        Check.rhyme(x, "banana nut tree be");
        about(x, 1, 2, 3, 1000, 4, 0, 4, 10);
        Check.put(x, "seven b");
        about(x, 1, 2, 3, 1000, 4, 7, 4, 10);
        x.rules(0, 99);
        about(x, 1, 2, 3, 1000, 4, 7, 0, 99);
        x.end(0);
        x.book();
        about(x, 0, 0, 3, 1000, 4, 0, 0, 99);
    }
}

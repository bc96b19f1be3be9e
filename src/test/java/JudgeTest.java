/** Promises 22 to 29: tape, untell, later, seen, steps, told, slip, about. */
public final class JudgeTest {
    private static final Check CHECK = new Check("JudgeTest");

    public static void main(String[] args) {
        tapes();
        limitsOfTapes();
        times();
        seeing();
        asKnown();
        ends();
        steps();
        told();
        slips();
        about();
        CHECK.finish();
    }

    private static void tapes() {
        TwoRopes x = new TwoRopes();
        CHECK.due("empty one", Check.tape(x, "", 0, 0, 0), 0);
        CHECK.due("second", Check.tape(x, "-lrb?", 2, 5, 199), 1);
        for (String bad : new String[] {"a", "-l-R", "l l", "-l-\n", "\u00ff"}) {
            CHECK.due("bad " + bad, Check.tape(x, bad, 0, 0, 0), -1);
            CHECK.due("bytes", x.about(5), 0);
            CHECK.due("tapes", x.about(2), 2);
        }
        Check.put(x, "-l");
        int[][] wrong = {{-1, 0, 0}, {3, 0, 0}, {0, -1, 0}, {0, 6, 0}, {0, 0, -1}, {0, 0, 200},
            {Integer.MIN_VALUE, 0, 0}, {0, Integer.MAX_VALUE, 0}, {0, 0, Integer.MAX_VALUE}};
        for (int[] w : wrong) {
            CHECK.due("none such", x.tape(w[0], w[1], w[2]), -2);
            CHECK.due("TAPE stays", x.about(5), 2);
        }
        CHECK.due("now", x.tape(0, 0, 0), 2);
        CHECK.due("TAPE empty", x.about(5), 0);
    }

    private static void limitsOfTapes() {
        TwoRopes x = new TwoRopes();
        Check.put(x, "r".repeat(201));
        CHECK.due("201", x.tape(0, 0, 0), -2);
        CHECK.due("stays", x.about(5), 201);
        x.end(200);
        CHECK.due("200", x.tape(0, 0, 0), 0);
        CHECK.due("tick 199", x.seen(0, 199, 0), 2);
        CHECK.due("tick 200", x.seen(0, 200, 0), 4);
        for (int i = 1; i < 30; i++) {
            CHECK.due("tape " + i, Check.tape(x, "l", 0, 1, i), i);
        }
        CHECK.due("untell", x.untell(3), true);
        Check.put(x, "l");
        CHECK.due("31st", x.tape(0, 1, 0), -2);
        CHECK.due("stays", x.about(5), 1);
        CHECK.due("tapes", x.about(2), 30);
        CHECK.due("last one", x.seen(1, 116, 0), 1);
        CHECK.due("untold one", x.seen(1, 12, 0), 4);
    }

    private static void times() {
        TwoRopes x = new TwoRopes();
        for (int by : new int[] {-1, 1001, Integer.MIN_VALUE, Integer.MAX_VALUE}) {
            CHECK.due("later " + by, x.later(by), -1);
        }
        CHECK.due("later 0", x.later(0), 0);
        CHECK.due("later 1", x.later(1), 1);
        for (int i = 0; i < 99; i++) {
            x.later(1000);
        }
        CHECK.due("time", x.about(3), 99001);
        CHECK.due("later 1000", x.later(1000), -1);
        CHECK.due("time stays", x.about(3), 99001);
        CHECK.due("later 999", x.later(999), 100000);
        CHECK.due("later 1", x.later(1), -1);
        CHECK.due("later 0", x.later(0), 100000);
        for (int tape : new int[] {-1, 0, 1, 30, Integer.MIN_VALUE, Integer.MAX_VALUE}) {
            CHECK.due("untell " + tape, x.untell(tape), false);
        }
    }

    private static void seeing() {
        TwoRopes x = new TwoRopes();
        Check.tape(x, "-lrb?-l", 0, 3, 2);
        int[] alone = {4, 0, 1, 2, 3, 4, 0, 1, 4};
        for (int i = 0; i < alone.length; i++) {
            CHECK.due("seen " + i, x.seen(3, 7 + i, 0), alone[i]);
            CHECK.due("of another", x.seen(2, 7 + i, 0), 4);
        }
        Check.tape(x, "-?bbl-l", 1, 3, 2);
        int[] two = {4, 0, 1, 4, 3, 1, 0, 1, 4};
        for (int i = 0; i < two.length; i++) {
            CHECK.due("seen by two " + i, x.seen(3, 7 + i, 0), two[i]);
        }
        // the first judge tells anew, with gaps: the last sign of that judge that is not ?
        Check.tape(x, "l?b??rr", 0, 3, 2);
        int[] anew = {4, 4, 1, 3, 3, 1, 4, 4, 4};
        for (int i = 0; i < anew.length; i++) {
            CHECK.due("seen anew " + i, x.seen(3, 7 + i, 0), anew[i]);
        }
        Check.tape(x, "?????r?", 1, 3, 2);
        CHECK.due("both now", x.seen(3, 13, 0), 2);
        Check.tape(x, "?????b?", 2, 3, 2);
        CHECK.due("a third one", x.seen(3, 13, 0), 4);
        for (int wrong : new int[] {-1, 6, Integer.MIN_VALUE, Integer.MAX_VALUE}) {
            CHECK.due("person", x.seen(wrong, 0, 0), -1);
        }
        for (int wrong : new int[] {-1, 800, Integer.MIN_VALUE, Integer.MAX_VALUE}) {
            CHECK.due("tick", x.seen(0, wrong, 0), -1);
        }
    }

    private static void asKnown() {
        TwoRopes x = new TwoRopes();
        x.later(5);
        Check.tape(x, "l", 0, 0, 0);
        x.later(5);
        Check.tape(x, "r", 0, 0, 0);
        x.later(5);
        x.untell(1);
        x.later(5);
        x.untell(0);
        Check.tape(x, "b", 0, 0, 0);
        x.untell(2);
        int[][] want = {{-1, 4}, {0, 4}, {4, 4}, {5, 1}, {9, 1}, {10, 2}, {14, 2}, {15, 1}, {19, 1}, {20, 4}, {21, 4},
            {Integer.MIN_VALUE, 4}, {Integer.MAX_VALUE, 4}};
        for (int[] w : want) {
            CHECK.due("seen at " + w[0], x.seen(0, 0, w[0]), w[1]);
        }
        CHECK.due("untold already", x.untell(1), false);
        Check.tape(x, "-", 0, 0, 0);
        CHECK.due("now", x.seen(0, 0, 20), 0);
        CHECK.due("at the last", x.seen(0, 0, Integer.MAX_VALUE), 0);
    }

    private static void ends() {
        TwoRopes x = new TwoRopes();
        Check.tape(x, "lrlrlr", 0, 0, 199);
        CHECK.due("tick 796", x.seen(0, 796, 0), 1);
        CHECK.due("tick 799", x.seen(0, 799, 0), 2);
        CHECK.due("tick 800", x.seen(0, 800, 0), -1);
        CHECK.due("steps", x.steps(0, 1, 0, 799, false, 0), 2);
        CHECK.due("most", x.steps(0, 1, 0, 799, true, 0), 798);
    }

    private static void steps() {
        TwoRopes x = new TwoRopes();
        Check.tape(x, "-lrb?-l", 0, 1, 0);
        int[][] want = {{1, 0, 6, 3, 4}, {2, 0, 6, 2, 3}, {1, 1, 1, 1, 1}, {2, 1, 1, 0, 0}, {1, 4, 4, 0, 1}, {2, 3, 4, 1, 2}, {1, 7, 799, 0, 793}};
        for (int[] w : want) {
            CHECK.due("least", x.steps(1, w[0], w[1], w[2], false, 0), w[3]);
            CHECK.due("most", x.steps(1, w[0], w[1], w[2], true, 0), w[4]);
        }
        CHECK.due("not known yet", x.steps(1, 1, 0, 6, false, -1), 0);
        int[][] wrong = {{-1, 1, 0, 1}, {6, 1, 0, 1}, {1, 0, 0, 1}, {1, 3, 0, 1}, {1, 1, -1, 1}, {1, 1, 0, 800}, {1, 1, 2, 1},
            {1, 1, Integer.MIN_VALUE, Integer.MAX_VALUE}};
        for (int[] w : wrong) {
            CHECK.due("can't be", x.steps(w[0], w[1], w[2], w[3], true, 0), -1);
        }
    }

    private static void told() {
        TwoRopes x = new TwoRopes();
        Check.book(x, "trick run worth 5:feet\"-l-r\";trick two worth 5:feet\"-l-r-b--\";");
        CHECK.due("all open", x.told(0, 0, 0, false, 0), 1);
        Check.tape(x, "-l-r-b-", 0, 0, 1);
        CHECK.due("sure", x.told(0, 1, 0, false, 0), 2);
        CHECK.due("not mirrored", x.told(0, 1, 0, true, 0), 0);
        CHECK.due("one open", x.told(0, 1, 1, false, 0), 1);
        CHECK.due("not at all", x.told(0, 2, 0, false, 0), 0);
        Check.tape(x, "-", 1, 0, 2);
        Check.tape(x, "-b--", 2, 0, 2);
        CHECK.due("sure now", x.told(0, 1, 1, false, 0), 2);
        Check.tape(x, "-l-r", 0, 0, 199);
        CHECK.due("behind the last TICK it is open", x.told(0, 199, 1, false, 0), 1);
        CHECK.due("at the last", x.told(0, 199, 0, false, 0), 2);
        CHECK.due("at the last not", x.told(0, 199, 1, true, 0), 0);
        int[][] wrong = {{-1, 0, 0}, {6, 0, 0}, {0, -1, 0}, {0, 200, 0}, {0, 0, -1}, {0, 0, 2}, {Integer.MAX_VALUE, 0, 0},
            {0, Integer.MAX_VALUE, 0}, {0, 0, Integer.MAX_VALUE}};
        for (int[] w : wrong) {
            CHECK.due("can't be", x.told(w[0], w[1], w[2], false, 0), -1);
        }
    }

    private static void slips() {
        TwoRopes x = new TwoRopes();
        Check.book(x, "trick dub worth 5:feet\"-l-r\"cross 0;trick aoff worth 1:feet\"-l-r\"off a 0;trick boff worth 1:feet\"-l-r\"off b 0;"
            + "trick bad worth 1:feet\"l---\";");
        Check.routine(x, "beats 8;at 0 2 in left;at 1 2 does dub;at 2 2 does aoff;at 3 2 does boff;at 4 2 does bad;");
        CHECK.due("not run", x.slip(2, false, 0), -1);
        x.rules(2, 0);
        x.run();
        CHECK.due("open at once", x.slip(2, false, 0), 0);
        CHECK.due("none for sure", x.slip(2, true, 0), -1);
        Check.tape(x, "-------", 0, 2, 0);
        CHECK.due("may be at 10", x.slip(2, false, 0), 10);
        // BEAT 1 crossed, 2 a off, 3 b off, 4 plain, 5 and 6 still, 7 plain
        Check.tape(x, "-lrb-bbbbr-lbbb-".substring(0, 10), 0, 2, 0);
        CHECK.due("for sure at 2", x.slip(2, true, 0), 2);
        Check.tape(x, "-b-b-bbbbb-b-bbb-b-bbbbbbbbb-b-b", 0, 2, 0);
        CHECK.due("none", x.slip(2, true, 0), -1);
        CHECK.due("none may be", x.slip(2, false, 0), -1);
        Check.tape(x, "l", 1, 2, 4);
        CHECK.due("two judges differ: open", x.slip(2, true, 0), -1);
        CHECK.due("may be", x.slip(2, false, 0), 16);
        x.later(1);
        Check.tape(x, "r", 0, 2, 7);
        CHECK.due("later one", x.slip(2, true, 1), 28);
        CHECK.due("as known before", x.slip(2, true, 0), -1);
        CHECK.due("another PERSON", x.slip(3, true, 1), -1);
        for (int wrong : new int[] {-1, 6, Integer.MIN_VALUE, Integer.MAX_VALUE}) {
            CHECK.due("no such PERSON", x.slip(wrong, false, 0), -1);
        }
        Check.routine(x, "beats 1;");
        CHECK.due("not run again", x.slip(2, false, 0), -1);
    }

    private static void about() {
        TwoRopes x = new TwoRopes();
        Check.book(x, "trick x worth 1:feet\"----\";trick y worth 1:feet\"----\";");
        Check.routine(x, "beats 3;at 0 2 in left;at 1 2 does x;at 2 2 does y;");
        Check.tape(x, "-", 0, 0, 0);
        Check.tape(x, "-", 0, 0, 0);
        Check.tape(x, "-", 0, 0, 0);
        Check.tape(x, "-", 0, 0, 0);
        x.untell(2);
        x.later(5);
        Check.rhyme(x, "one two three four five six");
        x.rules(8, 9);
        Check.put(x, "seven..");
        int[] want = {2, 3, 4, 5, 6, 7, 8, 9, -1};
        for (int what = 0; what < want.length; what++) {
            CHECK.due("about(" + what + ")", x.about(what), want[what]);
        }
        for (int what : new int[] {-1, Integer.MIN_VALUE, Integer.MAX_VALUE}) {
            CHECK.due("about(" + what + ")", x.about(what), -1);
        }
    }
}

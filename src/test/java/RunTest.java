/** Promises 9 to 16: rules, run, ran, miss, done, mode, person, feet. */
public final class RunTest {
    private static final Check CHECK = new Check("RunTest");
    private static final String BOOK = "trick run worth 5:feet\"-l-r\";trick jump worth 9:feet\"-b--\"from r;"
        + "trick spin worth 20:feet\"-l-r-l-r\"turn 1;trick dub worth 30:feet\"-b--\"cross 0;"
        + "trick solo worth 7:feet\"-l-b-l-r\"alone facing 1;trick bad worth 50:feet\"l--r\";"
        + "trick aoff worth 4:feet\"l--r\"off a 0;trick boff worth 3:feet\"--l-\"off b 0;"
        + "trick none worth 2:feet\"----\"turn 3;trick lone worth 1:feet\"-l---r--\"alone;";

    private static final RunCheck RUN = new RunCheck(CHECK, BOOK);

    public static void main(String[] args) {
        rules();
        wrongInputs();
        running();
        lawOne();
        lawTwo();
        lawThree();
        lawFour();
        lawFive();
        lawSix();
        lawSeven();
        lawEight();
        lawNine();
        stillBeats();
        changes();
        changesWait();
        gains();
        middleOfTricks();
        runAgain();
        CHECK.finish();
    }

    private static void rules() {
        TwoRopes x = RUN.start("beats 9;at 0 2 in left;at 1 2 does bad;");
        CHECK.due("run", x.run(), -10);
        CHECK.due("still", x.ran(4), 4);
        int[][] wrong = {{-1, 0}, {21, 0}, {0, -1}, {0, 100}, {Integer.MIN_VALUE, 0}, {0, Integer.MAX_VALUE}};
        for (int[] pair : wrong) {
            CHECK.due("rules", x.rules(pair[0], pair[1]), false);
            CHECK.due("stop", x.about(6), 4);
            CHECK.due("penalty", x.about(7), 10);
        }
        CHECK.due("rules(20, 99)", x.rules(20, 99), true);
        CHECK.due("what was run stays", x.ran(4), 4);
        CHECK.due("run", x.run(), -99);
        CHECK.due("still to the end", x.ran(4), 7);
        CHECK.due("rules(0, 0)", x.rules(0, 0), true);
        CHECK.due("run", x.run(), 0);
        CHECK.due("no still", x.ran(4), 0);
        CHECK.due("misses", x.ran(1), 1);
    }

    private static void wrongInputs() {
        TwoRopes x = RUN.start("beats 2;at 0 2 in left;at 0 2 in left;at 0 2 does run;");
        CHECK.due("before", x.miss(0, 0), -1);
        CHECK.due("run", x.run(), -5);
        for (int wrong : new int[] {-1, 5, Integer.MIN_VALUE, Integer.MAX_VALUE}) {
            CHECK.due("ran", x.ran(wrong), -1);
            CHECK.due("miss what", x.miss(0, wrong), -1);
            CHECK.due("miss k", x.miss(wrong, 0), -1);
            CHECK.due("done what", x.done(0, wrong), -1);
            CHECK.due("done k", x.done(wrong, 0), -1);
            CHECK.due("mode", x.mode(wrong), -1);
            CHECK.due("person beat", x.person(2, wrong, 0), -1);
            CHECK.due("person what", x.person(2, 0, wrong), -1);
            CHECK.due("feet person", x.feet(wrong == 5 ? 6 : wrong, 0), -1);
            CHECK.due("person", x.person(wrong == 5 ? 6 : wrong, 0, 0), -1);
            CHECK.due("feet tick", x.feet(2, wrong == 5 ? 8 : wrong), -1);
        }
        CHECK.due("miss(0, 3)", x.miss(0, 3), -1);
        CHECK.due("miss(1, 0)", x.miss(1, 0), -1);
        CHECK.due("done(1, 0)", x.done(1, 0), -1);
        CHECK.due("person what 4", x.person(2, 0, 4), -1);
        CHECK.due("mode(2)", x.mode(2), -1);
    }

    private static void running() {
        TwoRopes x = RUN.misses("beats 4;at 0 2 in left;at 1 3 in right;at 2 2 out left;at 2 3 does jump;");
        RUN.feet(x, 2, 0, 0, 2, 0, 1, 0, 2, 0, 1, -1, -1, -1, -1, -1);
        RUN.feet(x, 3, 0, -1, -1, -1, -1, 0, 1, 0, 2, 0, 3, 0, 0, 0, 1, 0, 2, -1);
        RUN.foot(x, 2, 0, 1, 1, -1, -1, -1);
        RUN.foot(x, 3, 0, -1, 2, 3, 2, -1);
        RUN.where(x, 0, 0, 2, 2, 2, 2, -1);
        RUN.where(x, 1, 0, 3, 3, 3, 3);
        RUN.where(x, 2, 0, 1, 1, 0, 0);
        RUN.where(x, 5, 0, 0, 0, 0, 0);
        CHECK.due("faces", x.person(3, 1, 2), 0);
        CHECK.due("faces of one OUT", x.person(3, 0, 2), -1);
        CHECK.due("trick of one OUT", x.person(3, 0, 3), -1);
        CHECK.due("BEATS", x.ran(0), 4);
    }

    private static void lawOne() {
        RUN.misses("beats 9;at 0 0 in left;at 0 1 out left;at 0 0 does run;at 0 1 takes left;at 0 2 out left;at 0 2 does run;",
            0, 1, 0, 0, 1, 1, 0, 1, 0, 0, 1, 1, 0, 1, 2, 0, 1, 2);
        RUN.misses("beats 9;at 0 2 in left;at 0 2 in right;at 1 2 does spin;at 2 2 out left;at 2 2 does run;at 2 2 takes left;",
            0, 1, 2, 2, 1, 2, 2, 1, 2, 2, 1, 2);
        // who takes and who gives are BUSY in both BEATS; the end can't be taken twice
        RUN.misses("beats 9;at 0 2 takes left;at 0 3 takes left;at 0 2 in left;at 0 0 takes right;at 1 2 out left;at 1 0 in left;"
            + "at 1 4 takes left;at 2 2 in left;at 2 0 in left;at 3 5 takes left;",
            0, 1, 3, 0, 1, 2, 0, 1, 0, 1, 1, 2, 1, 1, 0, 1, 1, 4, 2, 1, 2);
        RUN.misses("beats 9;at 0 2 in left;at 1 2 takes left;at 1 2 does run;at 1 2 out left;", 1, 1, 2, 1, 1, 2);
    }

    private static void lawTwo() {
        RUN.misses("beats 9;at 0 2 in left;at 0 3 in left;at 0 4 in right;at 0 5 in right;at 1 4 takes left;at 1 5 in right;",
            0, 2, 5);
        // the least law: a fourth one ahead of the way in and of an alone one
        RUN.misses("beats 9;at 0 2 in left;at 0 3 in left;at 0 4 in right;at 1 2 does dub;at 2 5 in right;at 3 5 in right;", 2, 2, 5, 3, 2, 5);
    }

    private static void lawThree() {
        RUN.misses("beats 9;at 0 2 in left;at 1 2 does dub;at 1 3 in left;at 1 3 out left;at 2 3 in left;at 2 3 in right;at 3 3 in left;",
            2, 3, 3, 2, 3, 3);
        RUN.misses("beats 9;at 0 2 in left;at 1 2 does aoff;at 2 3 in left;at 2 4 in right;", 2, 3, 3);
        RUN.misses("beats 9;at 0 2 in left;at 1 2 does boff;at 2 3 in right;at 2 4 in left;", 2, 3, 3);
        // the BEAT before is the last one that was not still
        RUN.misses("beats 9;at 0 2 in left;at 0 3 in left;at 1 2 does dub;at 1 3 does run;at 6 4 in left;at 7 4 in left;",
            1, 7, 2, 6, 3, 4);
        RUN.misses("beats 9;at 0 2 in left;at 0 3 in left;at 1 2 does dub;at 1 3 does run;at 6 4 in left;at 6 2 in left;",
            1, 7, 2, 6, 3, 4, 6, 1, 2);
    }

    private static void lawFour() {
        TwoRopes x = RUN.misses("beats 9;at 0 2 in left;at 1 2 out right;at 1 2 out left;at 2 2 in right;at 3 2 out left;at 3 2 out right;",
            1, 4, 2, 3, 4, 2);
        RUN.where(x, 2, 0, 1, 0, 1, 0);
        // both feet, or none: either way out
        RUN.misses("beats 9;at 0 2 in right;at 1 2 does jump;at 2 2 out left;at 3 2 in right;at 4 2 does jump;at 5 2 out right;");
        RUN.misses("beats 9;at 0 2 in right;at 1 2 does bad;at 6 2 out left;at 7 2 in left;", 1, 9, 2);
    }

    private static void lawFive() {
        RUN.misses("beats 9;at 0 2 in left;at 0 2 does jump;at 1 2 does jump mirrored;at 2 2 does solo;at 3 2 does jump;",
            0, 5, 2, 2, 5, 2);
        TwoRopes x = RUN.misses("beats 9;at 0 2 in left;at 0 2 does spin mirrored;at 2 2 does solo;at 3 2 does spin;at 5 2 does spin;at 7 2 does solo;",
            2, 5, 2);
        CHECK.due("faces", x.person(2, 0, 2), 0);
        CHECK.due("faces", x.person(2, 1, 2), 3);
        CHECK.due("faces", x.person(2, 4, 2), 0);
        CHECK.due("faces", x.person(2, 6, 2), 1);
        CHECK.due("mirrored", x.done(0, 3), 1);
        CHECK.due("mirrored", x.done(1, 3), 0);
    }

    private static void lawSix() {
        RUN.misses("beats 9;at 0 2 in left;at 0 3 in left;at 1 2 does lone;at 2 3 out left;at 2 2 does lone;at 3 3 in left;at 4 3 in left;",
            1, 6, 2, 3, 6, 3);
        RUN.misses("beats 9;at 0 2 in left;at 0 2 does lone;at 0 3 in left;at 1 3 takes left;at 2 4 in left;", 0, 6, 3);
        // the least law: FACES ahead of alone
        RUN.misses("beats 9;at 0 2 in left;at 0 3 in left;at 1 2 does solo;", 1, 5, 2);
        // one who takes an end is no longer IN
        RUN.misses("beats 9;at 0 2 in left;at 0 3 in left;at 1 3 takes left;at 1 2 does lone;");
    }

    private static void lawSeven() {
        TwoRopes x = RUN.misses("beats 9;at 0 4 in left;at 0 3 in right;at 0 2 in left;at 1 4 does dub;at 1 3 does aoff;", 1, 7, 3);
        RUN.modes(x, 0, 2, 4, 4, 4, 4, 0, 0, 0);
        RUN.feet(x, 4, 4, 0, 3, 0, 0);
        RUN.feet(x, 2, 4, 0, 2, 0, 1, 0, 0, 0, 0);
        RUN.foot(x, 2, 0, 1, 0, 0, 0, 0, 0, 2);
        RUN.foot(x, 4, 0, 1, 0);
        CHECK.due("done", x.ran(2), 0);
        CHECK.due("trick void", x.person(4, 1, 3), -1);
        // ahead of 8 and 9; one trick with any MODE is no clash with those who run
        RUN.misses("beats 9;at 0 4 in left;at 0 3 in right;at 1 4 does dub;at 1 3 does bad;at 1 5 takes left;", 1, 7, 3);
        RUN.misses("beats 9;at 0 4 in left;at 0 3 in right;at 1 4 does dub;");
    }

    private static void lawEight() {
        RUN.misses("beats 9;at 0 2 in left;at 1 2 does dub;at 1 5 takes left;at 1 4 takes right;", 1, 8, 4);
        // in the second BEAT, too; ahead of 9
        TwoRopes x = RUN.misses("beats 9;at 0 2 in left;at 1 5 takes left;at 2 2 does dub;", 2, 8, 5);
        RUN.where(x, 5, 0, 0, 4, 2, 2);
        RUN.where(x, 0, 0, 2, 2, 0, 0);
        x = RUN.misses("beats 20;at 0 2 in left;at 1 5 takes left;at 1 2 does dub;at 6 2 does aoff;", 1, 8, 5, 6, 8, 5);
        RUN.where(x, 5, 0, 0, 4, 4, 4, 4, 4, 2);
        RUN.misses("beats 9;at 0 2 in left;at 1 5 takes left;at 3 2 does dub;");
    }

    private static void lawNine() {
        TwoRopes x = RUN.misses("beats 9;at 0 4 in left;at 0 2 in left;at 0 3 in left;at 1 4 does bad;at 1 2 does bad;at 1 5 takes left;",
            1, 9, 2, 1, 9, 4);
        RUN.foot(x, 3, 0, 1, 0, 0, 0, 0, 0, 2);
        RUN.feet(x, 2, 4, 1, 0, 0, 2);
        RUN.feet(x, 3, 4, 0, 2, 0, 1);
        RUN.feet(x, 3, 24, 0, 1, 0, 2);
        RUN.where(x, 5, 1, 4, 4, 4, 4, 4, 2);
        CHECK.due("score", x.run(), -20);
    }

    private static void stillBeats() {
        TwoRopes x = RUN.misses("beats 12;at 0 2 in left;at 1 2 does bad;at 2 3 in left;at 3 0 in left;at 5 2 out left;at 6 2 does run;", 1, 9, 2);
        RUN.where(x, 2, 0, 1, 1, 1, 1, 1, 1, 1);
        RUN.where(x, 3, 0, 0, 0, 0, 0, 0, 0, 0);
        RUN.feet(x, 2, 8, 0, 0, 0, 0);
        RUN.feet(x, 3, 8, -1, -1, -1, -1);
        RUN.modes(x, 0, 0, 4, 4, 4, 4, 0);
        CHECK.due("still", x.ran(4), 4);
        CHECK.due("done", x.done(0, 0), 6);
    }

    private static void changes() {
        TwoRopes x = RUN.misses("beats 9;at 0 2 in left;at 1 2 takes left;at 1 3 takes right;at 3 0 in left;at 3 1 takes right;at 3 2 takes right;", 3, 1, 2);
        RUN.where(x, 2, 0, 1, 4, 2, 2, 2);
        RUN.where(x, 0, 0, 2, 2, 0, 1, 1);
        RUN.where(x, 3, 0, 0, 5, 3, 3, 0);
        RUN.where(x, 1, 0, 3, 3, 0, 5, 3);
        RUN.feet(x, 2, 3, 1, -1, -1, -1, -1);
        RUN.foot(x, 2, 0, 1, -1, -1);
        CHECK.due("trick of one who takes", x.person(2, 1, 3), -1);
        CHECK.due("faces of one who takes", x.person(2, 1, 2), -1);
    }

    private static void changesWait() {
        TwoRopes x = RUN.misses("beats 12;at 0 2 in left;at 1 4 takes right;at 1 2 does bad;at 4 4 in left;at 6 1 in left;at 7 1 in left;",
            1, 9, 2, 6, 1, 1);
        RUN.where(x, 4, 0, 0, 5, 5, 5, 5, 5, 3, 3);
        RUN.where(x, 1, 0, 3, 3, 3, 3, 3, 3, 0, 1);
        // it ends behind its second BEAT even if that breaks off
        x = RUN.misses("beats 12;at 0 2 in left;at 1 4 takes right;at 2 2 does bad;", 2, 9, 2);
        RUN.where(x, 4, 0, 0, 5, 3, 3);
        RUN.where(x, 1, 0, 3, 3, 0, 0);
    }

    private static void gains() {
        TwoRopes x = RUN.misses("beats 20;at 0 3 in left;at 0 2 in left;at 1 3 does jump mirrored;at 1 2 does jump mirrored;at 2 2 does spin;"
            + "at 2 3 does run;at 3 3 does run mirrored;at 4 3 does run;at 19 3 does spin;");
        CHECK.due("score", x.run(), 9 + 4 + 5 + 20 + 2);
        CHECK.due("gained", x.ran(3), 40);
        CHECK.due("done", x.ran(2), 6);
        int[][] want = {{1, 1, 2, 1, 9}, {1, 1, 3, 1, 4}, {2, 0, 3, 0, 5}, {2, 2, 2, 0, 20}, {3, 0, 3, 1, 2}, {4, 0, 3, 0, 0}};
        for (int k = 0; k < want.length; k++) {
            for (int what = 0; what < 5; what++) {
                CHECK.due("done(" + k + ", " + what + ")", x.done(k, what), want[k][what]);
            }
        }
        CHECK.due("one that does not end", x.person(3, 19, 3), 2);
        CHECK.due("no line", RUN.start("beats 3;").run(), 0);
    }

    private static void middleOfTricks() {
        TwoRopes x = RUN.misses("beats 9;at 0 2 in left;at 0 2 does spin;at 2 2 does lone;at 4 2 does none;at 5 2 does none mirrored;");
        RUN.foot(x, 2, 0, 2, 2, 1, 2, 2, 2);
        RUN.feet(x, 2, 8, 0, 1, 0, 0, 0, 2, 0, 0, 0, 0, 0, 0);
        int[] faces = {0, 1, 1, 1, 0, 1};
        int[] tricks = {2, -1, 9, -1, -1, -1};
        for (int beat = 0; beat < faces.length; beat++) {
            CHECK.due("faces " + beat, x.person(2, beat, 2), faces[beat]);
            CHECK.due("trick " + beat, x.person(2, beat, 3), tricks[beat]);
        }
    }

    private static void runAgain() {
        TwoRopes x = RUN.start("beats 9;at 0 2 in left;at 1 3 takes left;at 4 2 does run;at 5 2 does run;at 6 0 does run;");
        for (int i = 0; i < 3; i++) {
            CHECK.due("run " + i, x.run(), -3);
            CHECK.due("misses", x.ran(1), 1);
            CHECK.due("gained", x.ran(3), 7);
            RUN.where(x, 0, 0, 2, 2, 0);
        }
    }
}

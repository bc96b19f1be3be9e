/** Promises 9 to 16 and how a ROUTINE is run: each sentence that names a boundary case has a test of its own. */
public final class EdgeRunTest {
    private static final Check CHECK = new Check("EdgeRunTest");
    private static final RunCheck RUN = new RunCheck(CHECK, "trick run worth 5:feet\"-l-r\";trick two worth 7:feet\"-l-r-l-r\";"
        + "trick crs worth 1:feet\"-l-r\"cross 0;trick aof worth 1:feet\"-l-r\"off a 0;trick bof worth 1:feet\"-l-r\"off b 0;"
        + "trick bad worth 50:feet\"b---\";trick lone worth 3:feet\"-l-r-l-r\"alone;trick jump worth 4:feet\"-b--\";"
        + "trick cbad worth 9:feet\"b---\"cross 0;trick late worth 9:feet\"-l-r-l-r\"cross 1;trick lcrs worth 2:feet\"-l-r-l-r\"cross 0 to 1 alone;"
        + "trick spin worth 6:feet\"----\"turn 1;");
    private static final RunCheck WANTS = new RunCheck(CHECK, "trick fl worth 1:feet\"-l-r\"from l;trick fr worth 1:feet\"-l-r\"from r;"
        + "trick fb worth 1:feet\"-l-r\"from b;trick any worth 1:feet\"-l-r\";trick n worth 1:feet\"----\"facing 0;"
        + "trick e worth 1:feet\"----\"facing 1;trick s worth 1:feet\"----\"facing 2;trick w worth 1:feet\"----\"facing 3;"
        + "trick one worth 1:feet\"-b--\"turn 1;trick two worth 1:feet\"----\"turn 2;trick three worth 1:feet\"----\"turn 3;"
        + "trick bad worth 1:feet\"l---\";");
    private static final int MIN = Integer.MIN_VALUE;
    private static final int MAX = Integer.MAX_VALUE;

    public static void main(String[] args) {
        promises();
        atFirst();
        steps();
        canAndCannot();
        laws();
        leastLaw();
        voidLines();
        lawsOfBeats();
        breaksOff();
        stillBeats();
        scores();
        CHECK.finish();
    }

    /** The law that the last line breaks, with the lines ahead of it; 0 if none. */
    private static int law(RunCheck in, String ahead, String line) {
        TwoRopes before = in.start("beats 20;" + ahead);
        TwoRopes with = in.start("beats 20;" + ahead + line);
        before.run();
        with.run();
        int had = before.ran(1);
        return with.ran(1) > had ? with.miss(had, 1) : 0;
    }

    private static void laws(RunCheck in, String ahead, String who, String[] acts, int... want) {
        for (int i = 0; i < acts.length; i++) {
            String line = "at " + who + " " + acts[i] + ";";
            CHECK.due(ahead + line, law(in, ahead, line), want[i]);
        }
    }

    // ---- promises 9 to 16

    private static void promises() {
        rulesRange();
        rulesAtFirst();
        runNone();
        ranOtherWhat();
        ranNone();
        missNone();
        doneNone();
        modeNone();
        personNone();
        personNotIn();
        personTakes();
        feetStill();
        feetNone();
    }

    private static void rulesRange() {
        CHECK.of("9: STOP and PENALTY: true; false, doing nothing, if one can't be (STOP 0 .. 20, PENALTY 0 .. 99)");
        TwoRopes x = RUN.start("beats 30;at 0 2 in left;at 0 2 does bad;");
        int[][] good = {{0, 0}, {20, 99}, {1, 98}, {19, 1}};
        for (int[] pair : good) {
            CHECK.due("rules", x.rules(pair[0], pair[1]), true);
            CHECK.due("STOP", x.about(6), pair[0]);
            CHECK.due("PENALTY", x.about(7), pair[1]);
            CHECK.due("run", x.run(), -pair[1]);
            CHECK.due("still", x.ran(4), pair[0]);
        }
        int[][] wrong = {{-1, 5}, {21, 5}, {5, -1}, {5, 100}, {MIN, 5}, {MAX, 5}, {5, MIN}, {5, MAX}, {-1, -1}, {21, 100}};
        for (int[] pair : wrong) {
            CHECK.due("rules", x.rules(pair[0], pair[1]), false);
            CHECK.due("STOP", x.about(6), 19);
            CHECK.due("PENALTY", x.about(7), 1);
        }
        CHECK.due("run", x.run(), -1);
        CHECK.due("still", x.ran(4), 19);
    }

    private static void rulesAtFirst() {
        CHECK.of("STOP (4 at first), PENALTY (10 at first)");
        TwoRopes x = RUN.start("beats 30;at 0 2 in left;at 0 2 does bad;");
        CHECK.due("STOP", x.about(6), 4);
        CHECK.due("PENALTY", x.about(7), 10);
        CHECK.due("run", x.run(), -10);
        CHECK.due("still", x.ran(4), 4);
    }

    private static void runNone() {
        CHECK.of("10: -100000 if there is none");
        TwoRopes x = new TwoRopes();
        CHECK.due("new", x.run(), -100000);
        Check.book(x, "trick run worth 5:feet\"-l-r\";");
        CHECK.due("a BOOK alone", x.run(), -100000);
        Check.routine(x, "beats 1;");
        CHECK.due("one without lines", x.run(), 0);
        Check.book(x, "");
        CHECK.due("a new BOOK", x.run(), -100000);
    }

    private static void ranOtherWhat() {
        CHECK.of("11: NONE for another what");
        TwoRopes x = RUN.misses("beats 9;at 0 2 in left;at 0 2 in left;at 0 2 does run;at 1 2 does run;at 2 2 does bad;", 0, 1, 2, 2, 9, 2);
        int[] want = {9, 2, 2, 7, 4};
        for (int what = 0; what < want.length; what++) {
            CHECK.due("ran(" + what + ")", x.ran(what), want[what]);
        }
        for (int what : new int[] {-1, 5, 6, MIN, MAX}) {
            CHECK.due("ran(" + what + ")", x.ran(what), -1);
        }
    }

    private static void ranNone() {
        CHECK.of("11: NONE if none was");
        TwoRopes x = RUN.start("beats 9;");
        for (int what = -1; what < 6; what++) {
            CHECK.due("ran(" + what + ")", x.ran(what), -1);
        }
        x.run();
        CHECK.due("ran(0)", x.ran(0), 9);
        CHECK.due("no MISSES", x.ran(1), 0);
    }

    private static void missNone() {
        CHECK.of("12: NONE if there is none such");
        TwoRopes x = RUN.start("beats 9;at 3 0 in left;at 4 2 in left;at 5 2 in left;");
        CHECK.due("not run", x.miss(0, 0), -1);
        x.run();
        RUN.sameMisses(x, "two", 3, 1, 0, 5, 1, 2);
        for (int k : new int[] {-1, 2, 3, 199, 200, 201, MIN, MAX}) {
            for (int what = 0; what < 3; what++) {
                CHECK.due("miss(" + k + ", " + what + ")", x.miss(k, what), -1);
            }
        }
        for (int what : new int[] {-1, 3, 4, 5, MIN, MAX}) {
            CHECK.due("miss(0, " + what + ")", x.miss(0, what), -1);
            CHECK.due("miss(1, " + what + ")", x.miss(1, what), -1);
        }
    }

    private static void doneNone() {
        CHECK.of("13: NONE if there is none such");
        TwoRopes x = RUN.start("beats 9;at 3 2 in left;at 4 2 does run mirrored;at 6 2 does two;");
        CHECK.due("not run", x.done(0, 0), -1);
        x.run();
        int[][] want = {{4, 0, 2, 1, 5}, {6, 1, 2, 0, 7}};
        for (int k = 0; k < 2; k++) {
            for (int what = 0; what < 5; what++) {
                CHECK.due("done(" + k + ", " + what + ")", x.done(k, what), want[k][what]);
            }
            for (int what : new int[] {-1, 5, 6, MIN, MAX}) {
                CHECK.due("done(" + k + ", " + what + ")", x.done(k, what), -1);
            }
        }
        for (int k : new int[] {-1, 2, 99, 100, 101, MIN, MAX}) {
            CHECK.due("done(" + k + ", 0)", x.done(k, 0), -1);
            CHECK.due("done(" + k + ", 4)", x.done(k, 4), -1);
        }
    }

    private static void modeNone() {
        CHECK.of("14: MODE of a BEAT of it; NONE if there is none such");
        TwoRopes x = RUN.start("beats 200;at 198 2 in left;at 199 2 does crs;");
        CHECK.due("not run", x.mode(0), -1);
        x.run();
        CHECK.due("first", x.mode(0), 0);
        CHECK.due("last", x.mode(199), 1);
        for (int beat : new int[] {-1, 200, 201, MIN, MAX}) {
            CHECK.due("mode(" + beat + ")", x.mode(beat), -1);
        }
        Check.routine(x, "beats 3;");
        x.run();
        CHECK.due("last of a shorter one", x.mode(2), 0);
        CHECK.due("behind it", x.mode(3), -1);
        CHECK.due("behind it", x.mode(199), -1);
    }

    private static void personNone() {
        CHECK.of("15: NONE if there is none such");
        TwoRopes x = RUN.start("beats 9;at 0 5 in left;at 8 5 does two;");
        CHECK.due("not run", x.person(5, 0, 0), -1);
        x.run();
        CHECK.due("first PERSON, BEAT", x.person(0, 0, 0), 2);
        CHECK.due("last PERSON, BEAT", x.person(5, 8, 0), 1);
        CHECK.due("last what", x.person(5, 8, 3), 1);
        for (int person : new int[] {-1, 6, 7, MIN, MAX}) {
            CHECK.due("person " + person, x.person(person, 0, 0), -1);
            CHECK.due("person " + person, x.person(person, 8, 0), -1);
        }
        for (int beat : new int[] {-1, 9, 10, 199, 200, MIN, MAX}) {
            CHECK.due("beat " + beat, x.person(0, beat, 0), -1);
            CHECK.due("beat " + beat, x.person(5, beat, 1), -1);
        }
        for (int what : new int[] {-1, 4, 5, MIN, MAX}) {
            CHECK.due("what " + what, x.person(5, 0, what), -1);
            CHECK.due("what " + what, x.person(0, 0, what), -1);
        }
    }

    private static void personNotIn() {
        CHECK.of("15: 1: FOOT (NONE if not IN), 2: FACES (NONE), 3: the trick that goes on (NONE)");
        TwoRopes x = RUN.misses("beats 9;at 1 2 in right;at 2 2 does spin;at 3 2 does two;at 5 2 out right;at 6 2 takes left;");
        RUN.where(x, 2, 0, 0, 1, 1, 1, 1, 0, 4, 2, 2);
        RUN.foot(x, 2, 0, -1, 2, 2, 2, 2, -1, -1, -1, -1);
        RUN.faces(x, 2, 0, -1, 0, 1, 1, 1, -1, -1, -1, -1);
        RUN.person(x, 2, 3, 0, -1, -1, -1, 1, -1, -1, -1, -1, -1);
        for (int trick = 0; trick < 12; trick++) {
            StringBuilder text = new StringBuilder();
            for (int i = 0; i < 12; i++) {
                text.append("trick t").append((char) ('a' + i)).append(" worth 1:feet\"--------\";");
            }
            RunCheck in = new RunCheck(CHECK, text.toString());
            in.person(in.misses("beats 3;at 0 2 in left;at 1 2 does t" + (char) ('a' + trick) + ";"), 2, 3, 0, -1, trick, -1);
        }
        for (int what = 1; what <= 3; what++) {
            CHECK.due("of one who holds left", x.person(0, 0, what), -1);
            CHECK.due("of one who holds right", x.person(1, 0, what), -1);
            CHECK.due("of one who is OUT", x.person(5, 0, what), -1);
        }
    }

    private static void personTakes() {
        CHECK.of("15: 4 takes left, 5 takes right (behind the first BEAT of it; who gives holds still)");
        TwoRopes x = RUN.misses("beats 6;at 1 2 takes left;at 3 3 takes right;at 5 4 takes left;");
        RUN.where(x, 2, 0, 0, 4, 2, 2, 2, 2);
        RUN.where(x, 0, 0, 2, 2, 0, 0, 0, 0);
        RUN.where(x, 3, 0, 0, 0, 0, 5, 3, 3);
        RUN.where(x, 1, 0, 3, 3, 3, 3, 0, 0);
        RUN.where(x, 4, 0, 0, 0, 0, 0, 0, 4);
    }

    private static void feetStill() {
        CHECK.of("16: (0 in a still BEAT)");
        TwoRopes x = RUN.misses("beats 7;at 0 2 in left;at 1 2 does bad;", 1, 9, 2);
        RUN.feet(x, 2, 4, 3, 0, 0, 0);
        for (int tick = 8; tick < 24; tick++) {
            CHECK.due("still " + tick, x.feet(2, tick), 0);
        }
        RUN.feet(x, 2, 24, 0, 1, 0, 2);
        CHECK.due("of one OUT in a still BEAT", x.feet(3, 8), -1);
        CHECK.due("of one who holds in a still BEAT", x.feet(0, 8), -1);
    }

    private static void feetNone() {
        CHECK.of("16: NONE if not IN then, or there is none such");
        TwoRopes x = RUN.start("beats 5;at 1 5 in left;at 3 5 takes left;");
        CHECK.due("not run", x.feet(5, 4), -1);
        x.run();
        RUN.feet(x, 5, 0, -1, -1, -1, -1, 0, 2, 0, 1, 0, 2, 0, 1, -1, -1, -1, -1, -1, -1, -1, -1, -1);
        for (int tick = 0; tick < 20; tick++) {
            CHECK.due("of one who holds", x.feet(0, tick), -1);
            CHECK.due("of one OUT", x.feet(2, tick), -1);
        }
        Check.routine(x, "beats 200;at 199 0 takes right;at 199 5 in left;");
        x.run();
        CHECK.due("last TICK", x.feet(5, 799), 1);
        for (int tick : new int[] {-1, -2, -3, -4, 800, 801, MIN, MAX}) {
            CHECK.due("tick " + tick, x.feet(5, tick), -1);
        }
        for (int person : new int[] {-1, 6, MIN, MAX}) {
            CHECK.due("person " + person, x.feet(person, 799), -1);
        }
    }

    // ---- part 2, how it is run

    private static void atFirst() {
        CHECK.of("At first 0 holds the left ends of both ropes, 1 the right ones; others are OUT.");
        TwoRopes x = RUN.misses("beats 1;");
        int[] want = {2, 3, 0, 0, 0, 0};
        for (int person = 0; person < 6; person++) {
            RUN.where(x, person, 0, want[person]);
        }
        runAgain();
        personZeroAndOneIn();
    }

    private static void runAgain() {
        CHECK.of("10: The ROUTINE is run: from the beginning, with nothing of the run before");
        TwoRopes x = RUN.start("beats 9;at 0 2 in left;at 1 2 takes left;at 4 0 in right;at 5 0 does crs;");
        for (int time = 0; time < 3; time++) {
            CHECK.due("run", x.run(), 1);
            RUN.where(x, 0, 0, 2, 2, 0, 0, 1);
            RUN.where(x, 2, 0, 1, 4, 2);
            RUN.modes(x, 0, 0, 0, 0, 0, 1, 0, 0, 0, -1);
            CHECK.due("DONE", x.ran(2), 1);
            CHECK.due("GAINED", x.done(0, 4), 1);
            CHECK.due("behind it", x.done(1, 4), -1);
        }
        // the last BEAT crossed, broken off, and in the middle of a change of hands
        x = RUN.start("beats 3;at 0 2 in left;at 0 3 in right;at 2 4 takes left;at 2 3 does cbad;at 2 0 in left;");
        for (int time = 0; time < 3; time++) {
            CHECK.due("run", x.run(), -20);
            RUN.sameMisses(x, "again", 2, 1, 0, 2, 8, 4);
            RUN.where(x, 4, 0, 0, 0, 4);
            RUN.where(x, 2, 0, 1, 1, 1);
            RUN.foot(x, 3, 0, 2, 2, 0);
        }
        Check.routine(x, "beats 3;at 0 5 takes left;");
        x.run();
        RUN.where(x, 5, 0, 4, 2, 2);
        RUN.where(x, 0, 0, 2, 0, 0);
        RUN.where(x, 4, 0, 0, 0, 0);
        x = RUN.start("beats 2;at 1 5 takes left;");
        for (int time = 0; time < 3; time++) {
            x.run();
            RUN.where(x, 5, 0, 0, 4);
            RUN.where(x, 0, 0, 2, 2);
        }
    }

    private static void personZeroAndOneIn() {
        CHECK.of("PERSONS are 0 .. 5: 0 and 1, too, come in, RUN, do tricks and take, once they hold no end");
        String free = "beats 30;at 0 4 takes left;at 0 5 takes right;at 2 0 in left;at 2 1 in right;";
        TwoRopes x = RUN.misses(free + "at 3 0 does two;at 5 1 does two mirrored;");
        RUN.where(x, 0, 0, 2, 0, 1, 1);
        RUN.where(x, 1, 0, 3, 0, 1, 1);
        RUN.feet(x, 0, 8, 0, 2, 0, 1, 0, 1, 0, 2);
        RUN.feet(x, 1, 8, 0, 1, 0, 2, 0, 1, 0, 2);
        RUN.person(x, 0, 3, 3, 1, -1);
        CHECK.due("DONE by 0", x.done(0, 2), 0);
        CHECK.due("DONE by 1", x.done(1, 2), 1);
        RUN.misses(free + "at 3 2 in left;at 3 3 in left;", 3, 2, 3);
        RUN.misses(free + "at 3 1 does lone;", 3, 6, 1);
        RUN.misses(free + "at 3 1 out right;at 3 0 does lone;at 4 1 in left;", 4, 6, 1);
        RUN.misses(free + "at 3 0 does crs;at 3 1 does run;", 3, 7, 0);
        RUN.misses(free + "at 3 1 does crs;at 3 0 takes left;", 3, 8, 0);
        x = RUN.misses(free + "at 3 0 does bad;at 3 1 does bad;", 3, 9, 0, 3, 9, 1);
        RUN.foot(x, 0, 2, 1, 0, 0, 0, 0, 0, 2);
        RUN.feet(x, 0, 12, 3, 0, 0, 0, 0, 0, 0, 0);
        x = RUN.misses(free + "at 3 0 takes right;");
        RUN.where(x, 0, 2, 1, 5, 3);
        RUN.where(x, 5, 2, 3, 3, 0);
    }

    private static void steps() {
        CHECK.of("(b) the MODE: that of all tricks that go on in it, plain if there are none");
        TwoRopes x = RUN.misses("beats 9;at 0 2 in left;at 1 2 does crs;at 3 2 does aof;at 4 2 does bof;at 5 2 does run;at 6 2 does late;");
        RUN.modes(x, 0, 1, 0, 2, 3, 0, 0, 1, 0);

        CHECK.of("at TICK 1 the other foot than FOOT is down (the left, if that is none or both), at TICK 3 the other one again, else none");
        x = RUN.misses("beats 9;at 0 2 in left;at 0 3 in right;");
        RUN.feet(x, 2, 0, 0, 2, 0, 1, 0, 2, 0, 1);
        RUN.feet(x, 3, 0, 0, 1, 0, 2, 0, 1, 0, 2);
        x = RUN.misses("beats 9;at 0 2 in left;at 0 2 does jump;");
        RUN.foot(x, 2, 0, 3, 2);
        RUN.feet(x, 2, 4, 0, 1, 0, 2);
        x = RUN.misses("beats 9;at 0 2 in left;at 0 2 does bad;", 0, 9, 2);
        RUN.foot(x, 2, 4, 0, 2);
        RUN.feet(x, 2, 20, 0, 1, 0, 2);

        CHECK.of("in: by left FOOT is l, by right r; FACES 0");
        x = RUN.misses("beats 9;at 0 2 in left;at 0 2 does spin;at 1 2 out left;at 2 2 in right;at 2 2 does spin;at 3 2 out right;at 4 2 in left;");
        RUN.foot(x, 2, 0, 1, -1, 2, -1, 1);
        RUN.faces(x, 2, 0, 1, -1, 1, -1, 0);

        CHECK.of("FOOT: as before if there is none (no sign that is not -)");
        x = RUN.misses("beats 9;at 0 2 in left;at 0 2 does spin;at 1 2 does jump;at 2 2 does spin;");
        RUN.foot(x, 2, 0, 1, 3, 3, 2);

        CHECK.of("FOOT (what was last down, at the end of a BEAT)");
        RunCheck in = new RunCheck(CHECK, "trick x worth 1:feet\"-l--r-------l---\"off a 1 off a 3;trick y worth 1:feet\"----b---\"off a 1;");
        x = in.misses("beats 9;at 0 2 in right;at 1 2 does x;at 5 2 does y;");
        in.foot(x, 2, 0, 2, 1, 2, 2, 1, 1, 3);
        in.feet(x, 2, 4, 0, 1, 0, 0, 2, 0, 0, 0, 0, 0, 0, 0, 1, 0, 0, 0, 0, 0, 0, 0, 3, 0, 0, 0);
        in.where(x, 2, 0, 1, 1, 1, 1, 1, 1, 1);

        CHECK.of("FACES (0 .. 3), turned in quarters to the right, mirrored the other way: around");
        x = WANTS.misses("beats 9;at 0 2 in left;at 0 2 does three;at 1 2 does one;at 2 2 does one mirrored;at 3 2 does two;"
            + "at 4 2 does three mirrored;at 5 2 does three;at 6 2 does three;at 7 2 does two mirrored;");
        WANTS.faces(x, 2, 0, 3, 0, 3, 1, 2, 1, 0, 2, 2);
    }

    private static void canAndCannot() {
        String[] acts = {"in left", "in right", "out left", "out right", "does run", "takes left", "takes right"};
        CHECK.of("law 1: a line of one who can't do it as they are: in: who is OUT; out, does: who is IN, in no trick; takes: who is OUT, or IN in no trick");
        laws(RUN, "", "0 2", acts, 0, 0, 1, 1, 1, 0, 0);
        laws(RUN, "at 0 2 in left;", "0 2", acts, 1, 1, 0, 4, 0, 0, 0);
        laws(RUN, "at 0 2 in right;", "1 2", acts, 1, 1, 4, 0, 0, 0, 0);
        laws(RUN, "at 0 2 in left;at 1 2 does two;", "1 2", acts, 1, 1, 1, 1, 1, 1, 1);
        laws(RUN, "at 0 2 in left;at 1 2 does two;", "2 2", acts, 1, 1, 1, 1, 1, 1, 1);
        laws(RUN, "at 0 2 in left;at 1 2 does two;", "3 2", acts, 1, 1, 4, 0, 0, 0, 0);
        laws(RUN, "", "0 0", acts, 1, 1, 1, 1, 1, 1, 1);
        laws(RUN, "", "0 1", acts, 1, 1, 1, 1, 1, 1, 1);
        laws(RUN, "at 0 2 in left;at 1 2 out left;", "1 2", acts, 0, 0, 1, 1, 1, 0, 0);

        CHECK.of("takes: rope a in this BEAT, b in the next one; then they hold it, and who held it is OUT; law 1: who is BUSY can do nothing");
        String out = "at 1 2 takes left;";
        String in = "at 0 2 in left;at 1 2 takes left;";
        for (String ahead : new String[] {out, in}) {
            for (String who : new String[] {"1 2", "2 2", "3 2", "1 0", "2 0"}) {
                laws(RUN, ahead, who, acts, 1, 1, 1, 1, 1, 1, 1);
            }
            laws(RUN, ahead, "3 0", acts, 0, 0, 1, 1, 1, 0, 0);
        }
        laws(RUN, "at 1 2 takes right;", "2 1", acts, 1, 1, 1, 1, 1, 1, 1);
        laws(RUN, "at 1 2 takes right;", "3 1", acts, 0, 0, 1, 1, 1, 0, 0);

        CHECK.of("takes: then they hold it, and who held it is OUT: one behind the other");
        TwoRopes x = RUN.misses("beats 12;at 0 2 takes left;at 2 3 takes left;at 4 0 takes left;at 6 2 takes left;at 8 3 takes right;");
        RUN.where(x, 2, 0, 4, 2, 2, 0, 0, 0, 4, 2, 2, 2);
        RUN.where(x, 3, 0, 0, 0, 4, 2, 2, 0, 0, 0, 5, 3);
        RUN.where(x, 0, 0, 2, 0, 0, 0, 4, 2, 2, 0, 0, 0);
        RUN.where(x, 1, 7, 3, 3, 0);

        CHECK.of("law 1: an end that is being taken can't be taken");
        laws(RUN, out, "1 3", new String[] {"takes left", "takes right"}, 1, 0);
        laws(RUN, out, "2 3", new String[] {"takes left", "takes right"}, 1, 0);
        laws(RUN, out, "3 3", new String[] {"takes left", "takes right"}, 0, 0);
        laws(RUN, "at 1 2 takes right;", "2 3", new String[] {"takes left", "takes right"}, 0, 1);
    }

    private static void laws() {
        String[] ins = {"in left", "in right"};
        String[] outs = {"out left", "out right"};
        CHECK.of("law 2: a fourth one would be IN");
        String three = "at 0 2 in left;at 0 3 in left;at 0 4 in left;";
        laws(RUN, "at 0 2 in left;at 0 3 in left;", "0 4", ins, 0, 0);
        laws(RUN, three, "0 5", ins, 2, 2);
        laws(RUN, three, "1 5", ins, 2, 2);
        laws(RUN, three + "at 1 3 out left;", "1 5", ins, 0, 0);
        laws(RUN, three + "at 1 3 takes left;", "1 5", ins, 0, 0);
        laws(RUN, three + "at 1 3 takes left;at 2 5 in left;", "3 0", ins, 2, 2);

        CHECK.of("law 3: in by left in a BEAT ahead of which the MODE was crossed or a was off, in by right with crossed or b off");
        String one = "at 0 2 in left;";
        laws(RUN, one + "at 1 2 does run;", "2 3", ins, 0, 0);
        laws(RUN, one + "at 1 2 does crs;", "2 3", ins, 3, 3);
        laws(RUN, one + "at 1 2 does aof;", "2 3", ins, 3, 0);
        laws(RUN, one + "at 1 2 does bof;", "2 3", ins, 0, 3);
        laws(RUN, one + "at 1 2 does crs;", "1 3", ins, 0, 0);
        laws(RUN, one + "at 1 2 does crs;", "3 3", ins, 0, 0);
        laws(RUN, one + "at 1 2 does late;", "2 3", ins, 0, 0);
        laws(RUN, one + "at 1 2 does late;", "3 3", ins, 3, 3);
        CHECK.of("\"The BEAT before\": the last one that was not still; plain ahead of the first");
        laws(RUN, "", "0 3", ins, 0, 0);
        TwoRopes x = RUN.start("beats 2;at 0 2 in left;at 0 3 in right;at 1 2 does crs;");
        for (int time = 0; time < 2; time++) {
            x.run();
            CHECK.due("plain ahead of the first, though the run before ended crossed", x.ran(1), 0);
        }
        laws(RUN, one + "at 1 2 does cbad;", "6 3", ins, 3, 3);
        laws(RUN, one + "at 1 2 does cbad;", "7 3", ins, 0, 0);
        laws(RUN, one + "at 1 2 does bad;", "6 3", ins, 0, 0);

        CHECK.of("law 4: out by left with FOOT r, by right with FOOT l");
        laws(RUN, "at 0 2 in left;", "1 2", outs, 0, 4);
        laws(RUN, "at 0 2 in right;", "1 2", outs, 4, 0);
        laws(RUN, "at 0 2 in left;at 0 2 does jump;", "1 2", outs, 0, 0);
        laws(RUN, "at 0 2 in left;at 0 2 does bad;", "5 2", outs, 0, 0);

        CHECK.of("law 5: does with another FOOT than from, or FACES than facing, wants");
        String[] does = {"does fl", "does fr", "does fb", "does any", "does fl mirrored", "does fr mirrored", "does fb mirrored", "does any mirrored"};
        laws(WANTS, "at 0 2 in left;", "0 2", does, 0, 5, 5, 0, 5, 0, 5, 0);
        laws(WANTS, "at 0 2 in right;", "1 2", does, 5, 0, 5, 0, 0, 5, 5, 0);
        laws(WANTS, "at 0 2 in left;at 0 2 does one;", "1 2", does, 5, 5, 0, 0, 5, 5, 0, 0);
        laws(WANTS, "at 0 2 in left;at 0 2 does bad;", "5 2", does, 5, 5, 5, 0, 5, 5, 5, 0);
        String[] looks = {"does n", "does e", "does s", "does w", "does n mirrored", "does e mirrored", "does s mirrored", "does w mirrored"};
        laws(WANTS, "at 0 2 in left;", "1 2", looks, 0, 5, 5, 5, 0, 5, 5, 5);
        laws(WANTS, "at 0 2 in left;at 0 2 does one;", "1 2", looks, 5, 0, 5, 5, 5, 0, 5, 5);
        laws(WANTS, "at 0 2 in left;at 0 2 does two;", "1 2", looks, 5, 5, 0, 5, 5, 5, 0, 5);
        laws(WANTS, "at 0 2 in left;at 0 2 does three;", "1 2", looks, 5, 5, 5, 0, 5, 5, 5, 0);
        laws(WANTS, "at 0 2 in left;at 0 2 does one mirrored;", "1 2", looks, 5, 5, 5, 0, 5, 5, 5, 0);

        CHECK.of("law 6: does a trick that is alone, with another one IN");
        String[] lone = {"does lone", "does lone mirrored"};
        laws(RUN, "at 0 2 in left;", "0 2", lone, 0, 0);
        laws(RUN, "at 0 2 in left;at 0 3 in left;", "0 2", lone, 6, 6);
        laws(RUN, "at 0 3 in left;at 0 5 in left;", "1 5", lone, 6, 6);
        laws(RUN, "at 0 2 in left;at 0 3 in left;at 1 3 out left;", "1 2", lone, 0, 0);
        laws(RUN, "at 0 2 in left;at 0 3 in left;at 1 3 takes left;", "1 2", lone, 0, 0);
        CHECK.of("law 6: or in, while an alone one goes on");
        String goesOn = "at 0 2 in left;at 1 2 does lone;";
        laws(RUN, goesOn, "1 3", ins, 6, 6);
        laws(RUN, goesOn, "2 3", ins, 6, 6);
        laws(RUN, goesOn, "3 3", ins, 0, 0);
        laws(RUN, goesOn, "2 3", new String[] {"takes left"}, 0);
        laws(RUN, "at 0 2 in left;at 1 2 does two;", "2 3", ins, 0, 0);
    }

    private static void leastLaw() {
        CHECK.of("each line for itself (the least law that it breaks)");
        String[] ins = {"in left", "in right"};
        String three = "at 0 2 in left;at 0 3 in left;at 0 4 in left;";
        laws(RUN, three, "1 0", ins, 1, 1);
        laws(RUN, three, "1 2", ins, 1, 1);
        laws(RUN, three + "at 1 2 does crs;", "2 5", ins, 2, 2);
        laws(RUN, three + "at 1 2 does crs;", "2 1", ins, 1, 1);
        laws(RUN, "at 0 2 in left;at 1 2 does lcrs;", "2 3", ins, 3, 3);
        laws(RUN, "at 0 2 in left;at 1 2 does lcrs;", "1 3", ins, 6, 6);
        RunCheck both = new RunCheck(CHECK, "trick x worth 1:feet\"-l-r\"from r facing 1 alone;trick y worth 1:feet\"-l-r-l-r\";");
        laws(both, "at 0 2 in left;at 0 3 in left;", "0 2", new String[] {"does x"}, 5);
        laws(both, "at 0 2 in left;at 0 3 in left;at 0 2 does y;", "0 2", new String[] {"does x", "out right"}, 1, 1);
    }

    private static void voidLines() {
        CHECK.of("1 .. 6: it is void then; by 1 to 6 nothing stops");
        TwoRopes x = RUN.misses("beats 9;at 0 2 in left;at 0 3 in left;at 0 4 in left;at 0 5 in left;at 1 2 does two;at 2 0 in left;", 0, 2, 5, 2, 1, 0);
        RUN.where(x, 5, 0, 0, 0, 0);
        RUN.where(x, 0, 0, 2, 2, 2);
        CHECK.due("DONE", x.done(0, 1), 1);
        CHECK.due("still", x.ran(4), 0);
        x = RUN.misses("beats 9;at 0 2 in left;at 1 2 does crs;at 2 3 in left;at 2 2 out right;", 2, 3, 3);
        RUN.where(x, 3, 0, 0, 0, 0, 0);
        x = RUN.misses("beats 9;at 0 2 in left;at 1 2 out right;at 2 2 does run;", 1, 4, 2);
        RUN.where(x, 2, 0, 1, 1, 1);
        RUN.foot(x, 2, 0, 1, 1, 2);
        x = WANTS.misses("beats 9;at 0 2 in left;at 1 2 does fr;", 1, 5, 2);
        RUN.person(x, 2, 3, 0, -1, -1);
        RUN.feet(x, 2, 4, 0, 2, 0, 1);
        CHECK.due("DONE", x.ran(2), 0);
        x = RUN.misses("beats 9;at 0 2 in left;at 0 3 in left;at 1 3 does lone;at 1 3 does two;", 1, 6, 3);
        RUN.person(x, 3, 3, 0, -1, 1, -1);
        x = RUN.misses("beats 9;at 0 2 takes left;at 0 3 takes left;at 0 3 takes right;", 0, 1, 3);
        RUN.where(x, 3, 0, 5, 3);
        RUN.where(x, 2, 0, 4, 2);
    }

    private static void lawsOfBeats() {
        CHECK.of("law 7: tricks that want two MODES in one BEAT (it has that of the least PERSON's); by the least PERSON in such a trick");
        String two = "beats 9;at 0 4 in left;at 0 3 in left;";
        String[] tricks = {"run", "crs", "aof", "bof"};
        for (int of3 = 0; of3 < 4; of3++) {
            for (int of4 = 0; of4 < 4; of4++) {
                String lines = two + "at 1 4 does " + tricks[of4] + ";at 1 3 does " + tricks[of3] + ";";
                TwoRopes x = of3 == of4 ? RUN.misses(lines) : RUN.misses(lines, 1, 7, 3);
                CHECK.due(lines + " MODE", x.mode(1), of3);
                CHECK.due(lines + " DONE", x.ran(2), of3 == of4 ? 2 : 0);
            }
            TwoRopes x = RUN.misses(two + "at 1 4 does " + tricks[of3] + ";");
            CHECK.due("no trick wants no MODE", x.mode(1), of3);
        }
        TwoRopes x = RUN.misses(two + "at 1 3 does two;at 1 4 does late;", 2, 7, 3);
        RUN.modes(x, 0, 0, 0, 4, 4, 4, 4, 0, 0, -1);
        x = RUN.misses("beats 9;at 0 5 in left;at 0 4 in left;at 0 3 in left;at 1 5 does run;at 1 4 does crs;", 1, 7, 4);
        CHECK.due("the least in a trick", x.mode(1), 1);

        CHECK.of("law 8: a change (of hands) in a BEAT that is not plain; by the least PERSON who takes");
        for (int mode = 0; mode < 4; mode++) {
            String act = "2 does " + tricks[mode] + ";";
            String first = "beats 9;at 0 2 in left;at 1 5 takes left;at 1 4 takes right;at 1 " + act;
            String second = "beats 9;at 0 2 in left;at 1 5 takes left;at 2 " + act;
            String behind = "beats 9;at 0 2 in left;at 1 5 takes left;at 3 " + act;
            if (mode == 0) {
                RUN.misses(first);
                RUN.misses(second);
            } else {
                RUN.misses(first, 1, 8, 4);
                RUN.misses(second, 2, 8, 5);
            }
            RUN.misses(behind);
        }
        RUN.misses("beats 9;at 0 2 in left;at 1 4 takes left;at 1 5 takes right;at 1 2 does crs;", 1, 8, 4);

        lawNine();

        CHECK.of("7 .., then (if none) 8 .., then (if none) 9");
        RUN.misses("beats 9;at 0 2 in left;at 0 3 in left;at 1 5 takes left;at 1 2 does cbad;at 1 3 does bad;", 1, 7, 2);
        RUN.misses("beats 9;at 0 2 in left;at 0 3 in left;at 1 2 does cbad;at 1 3 does bad;", 1, 7, 2);
        RUN.misses("beats 9;at 0 2 in left;at 0 3 in left;at 1 5 takes left;at 1 2 does cbad;at 1 3 does cbad;", 1, 8, 5);
        RUN.misses("beats 9;at 0 2 in left;at 0 3 in left;at 1 5 takes left;at 1 2 does bad;at 1 3 does bad;", 1, 9, 2, 1, 9, 3);
    }

    private static void lawNine() {
        CHECK.of("law 9: a foot down as a rope passes: plain TICKS 0 and 2, crossed 0, a off 2, b off 0; by each PERSON IN (told by each)");
        String[] parts = {"", "cross 0", "off a 0", "off b 0"};
        String[] passing = {"02", "0", "2", "0"};
        for (int mode = 0; mode < 4; mode++) {
            for (int tick = 0; tick < 4; tick++) {
                for (char foot : new char[] {'l', 'r', 'b'}) {
                    StringBuilder signs = new StringBuilder("----");
                    signs.setCharAt(tick, foot);
                    RunCheck in = new RunCheck(CHECK, "trick x worth 5:feet\"" + signs + "\"" + parts[mode] + ";");
                    String lines = "beats 9;at 0 4 in left;at 0 2 in left;at 0 3 in left;at 1 4 does x;at 1 2 does x;";
                    boolean hit = passing[mode].indexOf('0' + tick) >= 0;
                    TwoRopes x = hit ? in.misses(lines, 1, 9, 2, 1, 9, 4) : in.misses(lines);
                    CHECK.due("MODE", x.mode(1), mode);
                    CHECK.due("DONE", x.ran(2), hit ? 0 : 2);
                }
            }
        }
    }

    private static void breaksOff() {
        CHECK.of("A BEAT with a MISS by 7 to 9 breaks off: tricks that go on are void (not DONE), those in them, and all IN, have FOOT none");
        TwoRopes x = RUN.misses("beats 9;at 0 2 in left;at 0 3 in left;at 0 4 in right;at 0 3 does spin;at 1 3 does two;at 2 2 does bad;", 2, 9, 2);
        RUN.foot(x, 2, 0, 1, 1, 0, 0, 0, 0, 0, 2);
        RUN.foot(x, 3, 0, 1, 2, 0, 0, 0, 0, 0, 2);
        RUN.foot(x, 4, 0, 2, 2, 0, 0, 0, 0, 0, 2);
        RUN.person(x, 3, 3, 0, -1, 1, -1, -1, -1, -1, -1, -1);
        RUN.faces(x, 3, 0, 1, 1, 1, 1, 1, 1, 1, 1);
        CHECK.due("DONE", x.ran(2), 1);
        CHECK.due("GAINED", x.ran(3), 6);
        RUN.where(x, 3, 2, 1);
        RUN.feet(x, 3, 8, 0, 1, 0, 2);
        // one that is void may be begun anew, and an alone one goes on no more
        RUN.misses("beats 20;at 0 2 in left;at 1 2 does lone;at 1 5 takes left;at 7 3 in left;");
        x = new RunCheck(CHECK, "trick x worth 5:feet\"----b---\"alone;").misses("beats 20;at 0 2 in left;at 1 2 does x;at 7 3 in left;at 7 2 out left;", 2, 9, 2);
        RUN.where(x, 3, 6, 0, 1);

        CHECK.of("changes of hands go on");
        x = RUN.misses("beats 9;at 0 2 in left;at 1 4 takes left;at 1 2 does bad;", 1, 9, 2);
        RUN.where(x, 4, 0, 0, 4, 4, 4, 4, 4, 2, 2);
        RUN.where(x, 0, 0, 2, 2, 2, 2, 2, 2, 0, 0);
        x = RUN.misses("beats 9;at 0 2 in left;at 1 4 takes left;at 2 2 does bad;", 2, 9, 2);
        RUN.where(x, 4, 0, 0, 4, 2, 2);
        RUN.where(x, 0, 0, 2, 2, 0, 0);
    }

    private static void stillBeats() {
        CHECK.of("the next STOP BEATS (0 .. 20) are still");
        String bad = "beats 30;at 0 2 in left;at 1 2 does bad;";
        for (int stop : new int[] {0, 1, 2, 4, 19, 20}) {
            TwoRopes x = RUN.start(bad);
            x.rules(stop, 10);
            CHECK.due("run", x.run(), -10);
            CHECK.due("still", x.ran(4), stop);
            CHECK.due("broken BEAT", x.mode(1), 0);
            for (int beat = 2; beat < 2 + stop; beat++) {
                CHECK.due("still " + beat, x.mode(beat), 4);
            }
            CHECK.due("behind them", x.mode(2 + stop), 0);
            RUN.foot(x, 2, 1 + stop, 0, 2);
        }
        TwoRopes x = RUN.misses("beats 4;at 0 2 in left;at 1 2 does bad;", 1, 9, 2);
        CHECK.due("only BEATS that there are", x.ran(4), 2);
        x = RUN.misses("beats 2;at 0 2 in left;at 1 2 does bad;", 1, 9, 2);
        CHECK.due("behind the last one none", x.ran(4), 0);
        x = RUN.misses("beats 12;at 0 2 in left;at 1 2 does bad;at 6 2 does bad;", 1, 9, 2, 6, 9, 2);
        CHECK.due("twice", x.ran(4), 8);
        RUN.modes(x, 0, 0, 4, 4, 4, 4, 0, 4, 4, 4, 4, 0);

        CHECK.of("lines in them are void without a MISS");
        for (int beat = 2; beat <= 5; beat++) {
            x = RUN.misses(bad + "at " + beat + " 3 in left;at " + beat + " 2 does run;at " + beat + " 0 in left;at " + beat + " 4 takes left;", 1, 9, 2);
            RUN.where(x, 3, 1, 0, 0, 0, 0, 0, 0, 0);
            RUN.where(x, 4, 1, 0, 0, 0, 0, 0, 0, 0);
            CHECK.due("DONE", x.ran(2), 0);
        }
        x = RUN.misses(bad + "at 6 3 in left;at 6 2 does run;at 6 0 in left;", 1, 9, 2, 6, 1, 0);
        RUN.where(x, 3, 5, 0, 1);
        CHECK.due("DONE", x.done(0, 0), 6);

        CHECK.of("nobody steps, changes of hands wait");
        x = RUN.misses("beats 9;at 0 2 in left;at 0 3 in right;at 1 4 takes right;at 1 2 does bad;", 1, 9, 2);
        for (int tick = 8; tick < 24; tick++) {
            CHECK.due("feet " + tick, x.feet(2, tick), 0);
            CHECK.due("feet " + tick, x.feet(3, tick), 0);
        }
        RUN.where(x, 4, 1, 5, 5, 5, 5, 5, 3);
        RUN.where(x, 1, 1, 3, 3, 3, 3, 3, 0);
        x = RUN.start("beats 9;at 0 2 in left;at 1 4 takes right;at 1 2 does bad;");
        x.rules(0, 10);
        x.run();
        RUN.where(x, 4, 1, 5, 3);
    }

    private static void scores() {
        CHECK.of("GAINED is for the first time that a trick is DONE, mirrored or not, by whomever, its worth, for the second half of it (cut), then nothing");
        TwoRopes x = RUN.misses("beats 20;at 0 2 in left;at 0 3 in left;at 1 2 does two mirrored;at 3 3 does two;at 5 2 does two;at 7 2 does two;at 9 3 does run;");
        int[] gains = {7, 3, 0, 0, 5, -1};
        for (int k = 0; k < gains.length; k++) {
            CHECK.due("GAINED by " + k, x.done(k, 4), gains[k]);
        }
        CHECK.due("all", x.ran(3), 15);
        CHECK.due("SCORE", x.run(), 15);
        String[] worths = {"0", "1", "2", "999"};
        int[] halves = {0, 0, 1, 499};
        for (int i = 0; i < worths.length; i++) {
            RunCheck in = new RunCheck(CHECK, "trick x worth " + worths[i] + ":feet\"-l-r\";");
            x = in.misses("beats 9;at 0 2 in left;at 0 2 does x;at 1 2 does x;at 2 2 does x;");
            CHECK.due("half", x.done(1, 4), halves[i]);
            CHECK.due("nothing", x.done(2, 4), 0);
        }
        // two at once: the less PERSON's is the first
        x = RUN.misses("beats 9;at 0 4 in left;at 0 3 in left;at 1 4 does two;at 1 3 does two mirrored;");
        CHECK.due("first", x.done(0, 2) * 10 + x.done(0, 4), 37);
        CHECK.due("second", x.done(1, 2) * 10 + x.done(1, 4), 43);

        CHECK.of("a trick that was begun ends behind its last BEAT; it is DONE");
        x = RUN.misses("beats 3;at 0 2 in left;at 1 2 does two;");
        CHECK.due("in the last BEAT", x.ran(2), 1);
        x = RUN.misses("beats 2;at 0 2 in left;at 1 2 does two;");
        CHECK.due("one BEAT too few", x.ran(2), 0);
        RUN.person(x, 2, 3, 1, 1);

        CHECK.of("SCORE: all that is GAINED, less PENALTY (0 .. 99) for each MISS");
        x = RUN.start("beats 20;at 0 2 in left;at 0 0 in left;at 0 1 in left;at 1 2 does run;at 2 2 does bad;");
        CHECK.due("run", x.run(), 5 - 30);
        x.rules(4, 99);
        CHECK.due("run", x.run(), 5 - 297);
        x.rules(4, 0);
        CHECK.due("run", x.run(), 5);
        x = RUN.start("beats 20;" + "at 0 0 in left;".repeat(60));
        x.rules(4, 99);
        CHECK.due("sixty MISSES", x.run(), -5940);
        CHECK.due("sixty MISSES", x.ran(1), 60);
        CHECK.due("the last", x.miss(59, 1), 1);
        CHECK.due("behind it", x.miss(60, 1), -1);
        x = RUN.start("beats 60;at 0 2 in left;" + runsOf(59));
        CHECK.due("run", x.run(), 5 + 2);
        CHECK.due("59 DONE", x.ran(2), 59);
        CHECK.due("the last", x.done(58, 0), 58);
        CHECK.due("behind it", x.done(59, 0), -1);
    }

    private static String runsOf(int count) {
        StringBuilder all = new StringBuilder();
        for (int beat = 0; beat < count; beat++) {
            all.append("at ").append(beat).append(" 2 does run;");
        }
        return all.toString();
    }
}

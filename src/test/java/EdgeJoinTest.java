/** Promises 17 and 18 and how tricks are JOINED: each sentence that names a boundary case has a test of its own. */
public final class EdgeJoinTest {
    private static final Check CHECK = new Check("EdgeJoinTest");
    private static final int MIN = Integer.MIN_VALUE;
    private static final int MAX = Integer.MAX_VALUE;

    public static void main(String[] args) {
        cannotBe();
        noneSuch();
        noBeats();
        emptyBook();
        soundOnes();
        noneTwice();
        footWanted();
        facesWanted();
        facesAround();
        facesAroundKeepFoot();
        footAsBefore();
        greatestWorth();
        fewestBeats();
        leastSet();
        firstByNumbers();
        plainAheadOfMirrored();
        allTwelve();
        eachAskedForItself();
        newBook();
        CHECK.finish();
    }

    private static TwoRopes book(String... tricks) {
        StringBuilder text = new StringBuilder();
        for (int i = 0; i < tricks.length; i++) {
            text.append("trick t").append((char) ('a' + i)).append(" worth ").append(tricks[i]).append(";");
        }
        TwoRopes x = new TwoRopes();
        if (Check.book(x, text.toString()) != tricks.length) {
            CHECK.due("FAULT of " + text, x.fault(0), 0);
        }
        return x;
    }

    /** The row is told as 2 * trick, and 1 more if it is mirrored. */
    private static void row(TwoRopes x, int n, int foot, int faces, int worth, int... ways) {
        String asked = "(" + n + ", " + foot + ", " + faces;
        CHECK.due("best" + asked + ")", x.best(n, foot, faces), worth);
        for (int k = 0; k < ways.length; k++) {
            CHECK.due("joined" + asked + ", " + k + ", 0)", x.joined(n, foot, faces, k, 0), ways[k] / 2);
            CHECK.due("joined" + asked + ", " + k + ", 1)", x.joined(n, foot, faces, k, 1), ways[k] % 2);
        }
        CHECK.due("joined" + asked + ", " + ways.length + ", 0)", x.joined(n, foot, faces, ways.length, 0), -1);
    }

    private static void cannotBe() {
        CHECK.of("17: in n BEATS (0 .. 200) from a FOOT (0 .. 3) and FACES; NONE if one can't be; 18: likewise");
        TwoRopes x = book("5:feet\"-l-r\"");
        int[][] wrong = {{-1, 0, 0}, {201, 0, 0}, {MIN, 0, 0}, {MAX, 0, 0}, {9, -1, 0}, {9, 4, 0}, {9, MIN, 0}, {9, MAX, 0},
            {9, 0, -1}, {9, 0, 4}, {9, 0, MIN}, {9, 0, MAX}, {-1, -1, -1}};
        for (int[] w : wrong) {
            CHECK.due("best", x.best(w[0], w[1], w[2]), -1);
            CHECK.due("joined", x.joined(w[0], w[1], w[2], 0, 0), -1);
            CHECK.due("joined", x.joined(w[0], w[1], w[2], 0, 1), -1);
        }
        for (int n : new int[] {1, 2, 199, 200}) {
            for (int foot = 0; foot <= 3; foot++) {
                for (int faces = 0; faces <= 3; faces++) {
                    row(x, n, foot, faces, 5, 0);
                }
            }
        }
    }

    private static void noneSuch() {
        CHECK.of("18: NONE if there is none such");
        TwoRopes x = book("5:feet\"-l-r\"", "5:feet\"-l-r\"");
        row(x, 9, 0, 0, 10, 0, 2);
        for (int k : new int[] {-1, 2, 3, 11, 12, 13, MIN, MAX}) {
            CHECK.due("k " + k, x.joined(9, 0, 0, k, 0), -1);
            CHECK.due("k " + k, x.joined(9, 0, 0, k, 1), -1);
        }
        for (int what : new int[] {-1, 2, 3, MIN, MAX}) {
            CHECK.due("what " + what, x.joined(9, 0, 0, 0, what), -1);
            CHECK.due("what " + what, x.joined(9, 0, 0, 1, what), -1);
        }
    }

    private static void noBeats() {
        CHECK.of("BEST in n BEATS: as many BEATS as n, none more");
        TwoRopes x = book("5:feet\"-l-r-l-r\"", "9:feet\"-l-r-l-r-l-r\"");
        row(x, 0, 0, 0, 0);
        row(x, 1, 0, 0, 0);
        row(x, 2, 0, 0, 5, 0);
        row(x, 3, 0, 0, 9, 2);
        row(x, 4, 0, 0, 9, 2);
        row(x, 5, 0, 0, 14, 0, 2);
        row(x, 200, 0, 0, 14, 0, 2);
    }

    private static void emptyBook() {
        CHECK.of("BEST of an empty BOOK: a row of none");
        TwoRopes x = new TwoRopes();
        row(x, 200, 0, 0, 0);
        x = book("5:feet\"-l-r\"");
        row(x, 200, 0, 0, 5, 0);
        Check.book(x, "");
        row(x, 200, 0, 0, 0);
    }

    private static void soundOnes() {
        CHECK.of("JOINED tricks: a row of SOUND tricks");
        TwoRopes x = book("900:feet\"l---\"", "5:feet\"-l-r\"", "900:feet\"-l-r--r-\"");
        row(x, 200, 0, 0, 5, 2);
        row(book("900:feet\"--l-\"cross 0", "5:feet\"l---\"off a 0"), 9, 0, 0, 905, 0, 2);
        row(book("900:feet\"l---\"cross 0", "5:feet\"l---\"off b 0"), 9, 0, 0, 0);
    }

    private static void noneTwice() {
        CHECK.of("none twice (mirrored or not)");
        row(book("5:feet\"-l-r\""), 200, 0, 0, 5, 0);
        row(book("5:feet\"-l-r\"from r"), 200, 2, 0, 5, 0);
        row(book("5:feet\"-l-r\"from r"), 200, 1, 0, 5, 1);
    }

    private static void footWanted() {
        CHECK.of("each beginning with the FOOT that it wants as the beginning leaves it");
        TwoRopes x = book("5:feet\"-b--\"from l");
        row(x, 9, 0, 0, 0);
        row(x, 9, 1, 0, 5, 0);
        row(x, 9, 2, 0, 5, 1);
        row(x, 9, 3, 0, 0);
        x = book("5:feet\"-l--\"from b");
        row(x, 9, 0, 0, 0);
        row(x, 9, 1, 0, 0);
        row(x, 9, 2, 0, 0);
        row(x, 9, 3, 0, 5, 0);
        CHECK.of("each beginning with the FOOT that it wants as the one ahead leaves it");
        x = book("5:feet\"-b--\"from l", "5:feet\"-b-r\"from b");
        row(x, 9, 1, 0, 10, 0, 2);
        row(x, 9, 2, 0, 10, 1, 2);
        row(x, 9, 3, 0, 10, 2, 1);
        row(x, 9, 0, 0, 0);
        // mirrored, so that the ends meet
        row(book("5:feet\"-l--\"", "5:feet\"-b--\"from r"), 9, 0, 0, 10, 0, 3);
        row(book("5:feet\"-b--\"from r", "5:feet\"-l--\"from b"), 9, 1, 0, 10, 1, 2);
    }

    private static void facesWanted() {
        CHECK.of("each beginning with the FACES that it wants, as the one ahead, or the beginning, leaves them");
        for (int facing = 0; facing <= 3; facing++) {
            TwoRopes x = book("5:feet\"----\"facing " + facing);
            for (int faces = 0; faces <= 3; faces++) {
                if (faces == facing) {
                    row(x, 9, 0, faces, 5, 0);
                } else {
                    row(x, 9, 0, faces, 0);
                }
            }
        }
        TwoRopes x = book("5:feet\"----\"turn 2", "5:feet\"----\"facing 2");
        row(x, 9, 0, 0, 10, 0, 2);
        row(x, 9, 0, 1, 5, 0);
        row(x, 9, 0, 2, 10, 2, 0);
        row(x, 9, 0, 3, 5, 0);
    }

    private static void facesAround() {
        CHECK.of("FACES around: from 3 a quarter to the right is 0, from 0 one to the left is 3");
        row(book("5:feet\"----\"turn 1", "5:feet\"----\"facing 0"), 9, 0, 3, 10, 0, 2);
        row(book("5:feet\"----\"turn 1", "5:feet\"----\"facing 3"), 9, 0, 0, 10, 1, 2);
        row(book("5:feet\"----\"turn 3", "5:feet\"----\"facing 1"), 9, 0, 2, 10, 0, 2);
        row(book("5:feet\"----\"turn 3", "5:feet\"----\"facing 1"), 9, 0, 0, 10, 1, 2);
        row(book("5:feet\"----\"turn 2", "5:feet\"----\"facing 1"), 9, 0, 3, 10, 0, 2);
        row(book("5:feet\"----\"turn 3", "5:feet\"----\"turn 3 facing 2", "5:feet\"----\"facing 1"), 9, 0, 3, 15, 0, 2, 4);
    }

    private static void facesAroundKeepFoot() {
        CHECK.of("FACES around: a turn changes no FOOT");
        for (int turn = 1; turn <= 3; turn++) {
            for (int facing = 0; facing <= 3; facing++) {
                TwoRopes x = book("5:feet\"----\"turn " + turn, "5:feet\"----\"from b facing " + facing);
                for (int foot = 0; foot <= 3; foot++) {
                    for (int faces = 0; faces <= 3; faces++) {
                        boolean atOnce = faces == facing;
                        boolean turned = (faces + turn) % 4 == facing || (faces + 4 - turn) % 4 == facing;
                        int want = foot == 3 && (atOnce || turned) ? 10 : 5;
                        CHECK.due("turn " + turn + " facing " + facing + " best(9, " + foot + ", " + faces + ")", x.best(9, foot, faces), want);
                    }
                }
            }
        }
    }

    private static void footAsBefore() {
        CHECK.of("the FOOT is as before if there is no sign that is not -");
        TwoRopes x = book("5:feet\"----\"", "5:feet\"-l--\"from b");
        row(x, 9, 3, 0, 10, 0, 2);
        row(x, 9, 0, 0, 5, 0);
        row(x, 9, 1, 0, 5, 0);
    }

    private static void greatestWorth() {
        CHECK.of("BEST: the greatest worth together");
        TwoRopes x = book("1:feet\"-l-r\"", "3:feet\"-l-r-l-r\"", "1:feet\"-l-r\"");
        row(x, 1, 0, 0, 1, 0);
        row(x, 2, 0, 0, 3, 2);
        row(x, 3, 0, 0, 4, 0, 2);
        row(x, 4, 0, 0, 5, 0, 2, 4);
        // one of worth 0 stands only where the ends meet by it
        row(book("0:feet\"-l-r\"", "0:feet\"-b--\""), 9, 0, 0, 0);
        row(book("0:feet\"-b--\"", "7:feet\"-l-r\"from b"), 9, 0, 0, 7, 0, 2);
        row(book("0:feet\"-b--\"", "7:feet\"-l-r\"from b"), 1, 0, 0, 0);
        row(book("0:feet\"-b--\"", "7:feet\"-l-r\"from b"), 9, 3, 0, 7, 2);
    }

    private static void fewestBeats() {
        CHECK.of("BEST: of like ones the fewest BEATS");
        TwoRopes x = book("6:feet\"-l-r-l-r\"", "6:feet\"-l-r\"", "3:feet\"-l-r-l-r\"", "3:feet\"-l-r\"");
        row(x, 1, 0, 0, 6, 2);
        row(x, 2, 0, 0, 9, 2, 6);
        row(x, 3, 0, 0, 12, 0, 2);
        row(book("4:feet\"-l-r-l-r-l-r\"", "2:feet\"-l-r\"", "2:feet\"-l-r\""), 3, 0, 0, 4, 2, 4);
    }

    private static void leastSet() {
        CHECK.of("BEST: then the set of tricks that is least as bits");
        TwoRopes x = book("4:feet\"-l-r\"", "4:feet\"-l-r\"", "4:feet\"-l-r\"");
        row(x, 1, 0, 0, 4, 0);
        row(x, 2, 0, 0, 8, 0, 2);
        // {1, 2} is 6, {0, 3} is 9: the least set, though the other one has the least number
        row(book("1:feet\"-b--\"", "3:feet\"-b-b-b-b\"", "3:feet\"-b-b-b-b\"", "5:feet\"-b-b-b-b-b-b\""), 4, 0, 0, 6, 2, 4);
        row(book("5:feet\"----\"facing 0 turn 1", "4:feet\"----\"facing 0 turn 2", "4:feet\"----\"facing 2", "3:feet\"----\"facing 1"),
            2, 0, 0, 8, 2, 4);
        // {0, 1} is 3, {2} is 4; {0} is 1, {1, 2} is 6
        row(book("1:feet\"-l-r\"", "1:feet\"-l-r\"", "2:feet\"-l-r-l-r\""), 2, 0, 0, 2, 0, 2);
        row(book("2:feet\"-l-r-l-r\"", "1:feet\"-l-r\"", "1:feet\"-l-r\""), 2, 0, 0, 2, 0);
    }

    private static void firstByNumbers() {
        CHECK.of("BEST: then the first by trick numbers, one behind the other");
        row(book("1:feet\"-l-r\"", "1:feet\"-l-r\"", "1:feet\"-l-r\""), 9, 0, 0, 3, 0, 2, 4);
        // 0 can't be ahead of 1; 2 must be the last
        row(book("1:feet\"-b--\"from b", "1:feet\"-b--\"", "1:feet\"-l--\"from b"), 9, 0, 0, 3, 2, 0, 4);
        row(book("1:feet\"-b--\"from b", "1:feet\"-l--\"from b", "1:feet\"-b--\""), 9, 0, 0, 3, 4, 0, 2);
    }

    private static void plainAheadOfMirrored() {
        CHECK.of("BEST: then plain ones ahead of mirrored ones, one behind the other");
        row(book("1:feet\"-l-r\""), 9, 0, 0, 1, 0);
        row(book("1:feet\"-l-r\"turn 1", "1:feet\"-b--\"facing 3"), 9, 0, 0, 2, 1, 2);
        row(book("1:feet\"-l--\"", "1:feet\"-b--\"from r"), 9, 0, 0, 2, 0, 3);
        row(book("1:feet\"-l--\"", "1:feet\"-b--\"from r turn 1", "1:feet\"-b--\"facing 1"), 9, 0, 0, 3, 1, 2, 4);
        // number by number: 0 plain and 2 behind it are ahead of 0 mirrored and 1 behind it
        row(book("1:feet\"-l--\"", "1:feet\"-b--\"", "1:feet\"-b--\"from l"), 9, 0, 0, 3, 0, 4, 2);
    }

    private static void allTwelve() {
        CHECK.of("At most 12 TRICKS: all of them in one row");
        String[] tricks = new String[12];
        for (int i = 0; i < 12; i++) {
            tricks[i] = "999:feet\"" + "-l-r".repeat(8) + "\"";
        }
        TwoRopes x = book(tricks);
        int[] all = {0, 2, 4, 6, 8, 10, 12, 14, 16, 18, 20, 22};
        row(x, 200, 0, 0, 11988, all);
        row(x, 96, 3, 3, 11988, all);
        row(x, 95, 0, 0, 10989, 0, 2, 4, 6, 8, 10, 12, 14, 16, 18, 20);
        for (int i = 0; i < 12; i++) {
            tricks[i] = i + 1 + ":feet\"" + "----".repeat(i % 3 + 1) + "\"facing " + i % 4;
        }
        x = book(tricks);
        for (int faces = 0; faces <= 3; faces++) {
            row(x, 200, 0, faces, 3 * faces + 15, 2 * faces, 2 * (faces + 4), 2 * (faces + 8));
            row(x, 6, 3, faces, 3 * faces + 15, 2 * faces, 2 * (faces + 4), 2 * (faces + 8));
            row(x, 5, 1, faces, 2 * faces + 14, 2 * (faces + 4), 2 * (faces + 8));
        }
        for (int i = 0; i < 12; i++) {
            tricks[i] = "1:feet\"" + "----".repeat(i % 8 + 1) + "\"";
        }
        x = book(tricks);
        row(x, 1, 0, 0, 1, 0);
        row(x, 2, 0, 0, 2, 0, 16);
        row(x, 4, 0, 0, 3, 0, 2, 16);
        row(x, 6, 0, 0, 4, 0, 2, 16, 18);
        row(x, 11, 0, 0, 5, 0, 2, 4, 16, 18);
        for (int i = 0; i < 12; i++) {
            tricks[i] = 10 * (i + 1) + ":feet\"----\"";
        }
        x = book(tricks);
        row(x, 1, 0, 0, 120, 22);
        row(x, 2, 0, 0, 230, 20, 22);
        row(x, 7, 0, 0, 630, 10, 12, 14, 16, 18, 20, 22);
        row(x, 11, 0, 0, 770, 2, 4, 6, 8, 10, 12, 14, 16, 18, 20, 22);
    }

    private static void eachAskedForItself() {
        CHECK.of("17, 18: each call answers for its own n, FOOT and FACES, whatever was asked before");
        for (int first = 0; first < 32; first++) {
            TwoRopes x = book("5:feet\"-l-r\"facing 0 from l");
            for (int second = 0; second < 32; second++) {
                askOne(x, first);
                askOne(x, second);
            }
        }
        TwoRopes any = book("5:feet\"-l-r\"");
        for (int faces = 0; faces <= 3; faces++) {
            for (int foot = 0; foot <= 3; foot++) {
                CHECK.due("in one BEAT", any.best(1, 0, 0), 5);
                CHECK.due("in no BEAT", any.best(0, foot, faces), 0);
                CHECK.due("in one BEAT", any.best(1, foot, faces), 5);
                CHECK.due("in no BEAT", any.best(0, 3, 3), 0);
            }
        }
        TwoRopes x = book("5:feet\"-l-r-l-r\"", "6:feet\"-l-r\"");
        CHECK.due("joined ahead of best", x.joined(3, 0, 0, 1, 0), 1);
        CHECK.due("joined of another n", x.joined(1, 0, 0, 0, 0), 1);
        CHECK.due("joined of another n", x.joined(3, 0, 0, 0, 0), 0);
        CHECK.due("best of one n", x.best(1, 0, 0), 6);
        CHECK.due("joined of another n", x.joined(3, 0, 0, 0, 0), 0);
    }

    /** The trick can be done in one BEAT, from l, or mirrored from r, with FACES 0. */
    private static void askOne(TwoRopes x, int number) {
        int n = number / 16;
        int foot = number / 4 % 4;
        int faces = number % 4;
        boolean can = n == 1 && faces == 0 && (foot == 1 || foot == 2);
        CHECK.due("joined(" + n + ", " + foot + ", " + faces + ")", x.joined(n, foot, faces, 0, 1), can ? foot - 1 : -1);
        CHECK.due("best(" + n + ", " + foot + ", " + faces + ")", x.best(n, foot, faces), can ? 5 : 0);
    }

    private static void newBook() {
        CHECK.of("17, 18: of the BOOK that there is, with nothing of the one before");
        TwoRopes x = book("5:feet\"----\"", "5:feet\"----\"", "5:feet\"----\"", "5:feet\"----\"");
        row(x, 9, 0, 0, 20, 0, 2, 4, 6);
        Check.book(x, "trick c worth 3:feet\"----\"facing 1;trick d worth 4:feet\"l---\";trick e worth 2:feet\"-b--\"from l;");
        row(x, 0, 0, 1, 0);
        row(x, 9, 0, 0, 0);
        row(x, 9, 0, 1, 3, 0);
        row(x, 9, 1, 0, 2, 4);
        row(x, 9, 2, 1, 5, 0, 5);
        Check.book(x, "trick c worth 3:feet\"----\";trick d");
        row(x, 9, 0, 0, 0);
        Check.book(x, "trick c worth 7:feet\"----\";");
        row(x, 0, 0, 1, 0);
        row(x, 9, 0, 0, 7, 0);
    }
}

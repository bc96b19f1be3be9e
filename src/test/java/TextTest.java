/** Promises 1 to 6: a new object, feed, end, book, routine, fault. */
public final class TextTest {
    private static final Check CHECK = new Check("TextTest");

    public static void main(String[] args) {
        newObject();
        feeding();
        ending();
        booksThatStand();
        booksWithFaults();
        faultKeepsAll();
        limitsOfBooks();
        routinesThatStand();
        routinesWithFaults();
        faultOfRoutineKeeps();
        cutTexts();
        CHECK.finish();
    }

    private static void newObject() {
        TwoRopes x = new TwoRopes();
        int[] about = {0, 0, 0, 0, 0, 0, 4, 10};
        for (int what = 0; what < about.length; what++) {
            CHECK.due("new about(" + what + ")", x.about(what), about[what]);
        }
        CHECK.due("new fault(0)", x.fault(0), 0);
        CHECK.due("new fault(1)", x.fault(1), -1);
        CHECK.due("new run()", x.run(), -100000);
        CHECK.due("new ran(0)", x.ran(0), -1);
        CHECK.due("new mode(0)", x.mode(0), -1);
        CHECK.due("new trick", x.trick(0, false, 0), -1);
        CHECK.due("new slip", x.slip(0, false, 0), -1);
        CHECK.due("new word", x.word(0), -1);
        CHECK.due("new best", x.best(200, 3, 3), 0);
    }

    private static void feeding() {
        TwoRopes x = new TwoRopes();
        for (int i = 1; i <= 70; i++) {
            CHECK.due("feed " + i, x.feed(0x20202020, 0x20202020, 0x20202020, 0x20202020, 0x20202020), 20 * i);
        }
        CHECK.due("feed 71", x.feed(0, 0, 0, 0, 0), -1);
        CHECK.due("bytes", x.about(5), 1400);
        CHECK.due("end(1381)", x.end(1381), 1381);
        CHECK.due("feed over", x.feed(0, 0, 0, 0, 0), -1);
        CHECK.due("end(1380)", x.end(1380), 1380);
        CHECK.due("feed full", x.feed(0x20202020, 0x20202020, 0x20202020, 0x20202020, 0x20202020), 1400);
        CHECK.due("a book of blanks", x.book(), 0);
        CHECK.due("no bytes then", x.about(5), 0);
        // "trick run worth 5:" with the highest byte first; a byte above 127 is no TOKEN
        x.feed(0x74726963, 0x6b20ff20, 0, 0, 0);
        x.end(8);
        CHECK.due("high byte", x.book(), -1);
        CHECK.due("high byte fault", x.fault(0), 1);
        CHECK.due("high byte place", x.fault(1), 6);
    }

    private static void ending() {
        TwoRopes x = new TwoRopes();
        CHECK.due("end(1) of none", x.end(1), -1);
        CHECK.due("end(0) of none", x.end(0), 0);
        Check.put(x, "beats 3;");
        CHECK.due("end(-1)", x.end(-1), -1);
        CHECK.due("end(9)", x.end(9), -1);
        CHECK.due("end(min)", x.end(Integer.MIN_VALUE), -1);
        CHECK.due("end(max)", x.end(Integer.MAX_VALUE), -1);
        CHECK.due("nothing done", x.about(5), 8);
        CHECK.due("end(8)", x.end(8), 8);
        CHECK.due("end(7)", x.end(7), 7);
        CHECK.due("cut routine", x.routine(), -1);
        CHECK.due("cut routine fault", x.fault(0), 2);
        CHECK.due("cut routine place", x.fault(1), 7);
    }

    private static void stands(String text, int tricks) {
        TwoRopes x = new TwoRopes();
        CHECK.due(text, Check.book(x, text), tricks);
        CHECK.due(text + " fault(0)", x.fault(0), 0);
        CHECK.due(text + " fault(1)", x.fault(1), -1);
        CHECK.due(text + " fault(2)", x.fault(2), -1);
        CHECK.due(text + " fault(-1)", x.fault(-1), -1);
        CHECK.due(text + " about(0)", x.about(0), tricks);
        CHECK.due(text + " about(5)", x.about(5), 0);
    }

    private static void booksThatStand() {
        stands("", 0);
        stands(" \n ", 0);
        stands("trick x worth 0:feet\"----\";", 1);
        stands("trick eightone worth 999 : feet \"--------------------------------\" ;", 1);
        stands("trick x worth 007:feet\"-l-r\"alone;trick y worth 1:feet\"-l-r\"from b facing 0turn 3;".replace("0turn", "0 turn"), 2);
        stands("trick x worth 1:feet\"-l-r-l-r-l-r\"cross 0 to 1 off a 2;", 1);
        stands("trick x worth 1:feet\"-l-r-l-r-l-r\"off b2 off a1 to 1cross 0;".replace("1cross", "1 cross"), 1);
        stands("trick x worth 1:\nfeet\"-l-r\"\ncross 0\n;", 1);
        stands("trick tricks worth 1:feet\"-l-r\";trick c worth 2:feet\"-l-r\";", 2);
    }

    private static void fails(String text, int fault, int place) {
        TwoRopes x = new TwoRopes();
        CHECK.due(text, Check.book(x, text), -1);
        CHECK.due(text + " fault(0)", x.fault(0), fault);
        CHECK.due(text + " fault(1)", x.fault(1), place);
        CHECK.due(text + " about(0)", x.about(0), 0);
    }

    private static void booksWithFaults() {
        fails("!", 1, 0);
        fails("\t", 1, 0);
        fails("Trick", 1, 0);
        fails("tricktrick", 1, 0);
        fails("x", 2, 0);
        fails(";", 2, 0);
        fails("trick", 2, 5);
        fails("trick  ", 2, 7);
        fails("trick worth", 2, 6);
        fails("trick right worth 1:feet\"-l-r\";", 2, 6);
        fails("trick ninelette worth 1:feet\"-l-r\";", 1, 6);
        fails("trick 5 worth", 2, 6);
        fails("trick x 5", 2, 8);
        fails("trick x:feet\"-l-r\";", 2, 7);
        fails("trick x worth:feet\"-l-r\";", 2, 13);
        fails("trick worth 5:feet\"-l-r\";", 2, 6);
        fails("trick x worth 5 feet\"-l-r\";", 2, 16);
        fails("trick x worth 5:\"-l-r\";", 2, 16);
        fails("trick x worth x", 2, 14);
        fails("trick x worth 1234", 1, 14);
        fails("trick x worth 12a", 1, 14);
        fails("trick x worth 12 a", 2, 17);
        fails("trick x worth 1;", 2, 15);
        fails("trick x worth 1:trick", 2, 16);
        fails("trick x worth 1:feet;", 2, 20);
        fails("trick x worth 1:feet\"-l-\";", 1, 20);
        fails("trick x worth 1:feet\"\";", 1, 20);
        fails("trick x worth 1:feet\"-l-r-\";", 1, 20);
        fails("trick x worth 1:feet\"-l-r", 1, 20);
        fails("trick x worth 1:feet\"-l-x\";", 1, 20);
        fails("trick x worth 1:feet\"-l r\";", 1, 20);
        fails("trick x worth 1:feet\"------------------------------------\";", 1, 20);
        fails("trick x worth 1:feet\"-l-r\"", 2, 26);
        fails("trick x worth 1:feet\"-l-r\":", 2, 26);
        fails("trick x worth 1:feet\"-l-r\"?", 1, 26);
        fails("trick x worth 1:feet\"-l-r\";;", 2, 27);
        fails("trick x worth 1:feet\"-l-r\";trick x worth 2:feet\"-l-r\";", 3, 33);
        fails("trick x worth 1:feet\"-l-r\"cross 1;", 4, 32);
        fails("trick x worth 1:feet\"-l-r\"cross;", 2, 31);
        fails("trick x worth 1:feet\"-l-r-l-r\"cross 1 to 0;", 4, 41);
        fails("trick x worth 1:feet\"-l-r-l-r\"cross 0 to 2;", 4, 41);
        fails("trick x worth 1:feet\"-l-r-l-r\"cross 0 to;", 2, 40);
        fails("trick x worth 1:feet\"-l-r-l-r\"cross 0 to x;", 2, 41);
        fails("trick x worth 1:feet\"-l-r-l-r\"off c 0;", 2, 34);
        fails("trick x worth 1:feet\"-l-r-l-r\"off l 0;", 2, 34);
        fails("trick x worth 1:feet\"-l-r-l-r\"off 0;", 2, 34);
        fails("trick x worth 1:feet\"-l-r-l-r\"off a 2;", 4, 36);
        fails("trick x worth 1:feet\"-l-r-l-r\"off a 0 cross 0;", 5, 44);
        fails("trick x worth 1:feet\"-l-r-l-r\"off a 1 cross 0 to 1;", 5, 49);
        fails("trick x worth 1:feet\"-l-r-l-r\"off a 0 cross 0 to 1;", 5, 44);
        fails("trick x worth 1:feet\"-l-r-l-r\"off a 0 cross 0 to 9;", 5, 44);
        fails("trick x worth 1:feet\"-l-r-l-r\"off a 1 cross 0 to 9;", 4, 49);
        fails("trick x worth 1:feet\"-l-r-l-r\"off a 0 off b 0 !", 5, 44);
        fails("trick x worth 1:feet\"-l-r\"turn 0;", 4, 31);
        fails("trick x worth 1:feet\"-l-r\"turn 4;", 4, 31);
        fails("trick x worth 1:feet\"-l-r\"turn 1 turn 1;", 2, 33);
        fails("trick x worth 1:feet\"-l-r\"turn 1 turn !", 2, 33);
        fails("trick x worth 1:feet\"-l-r\"from a;", 2, 31);
        fails("trick x worth 1:feet\"-l-r\"from l from l;", 2, 33);
        fails("trick x worth 1:feet\"-l-r\"facing 4;", 4, 33);
        fails("trick x worth 1:feet\"-l-r\"facing 0 facing 0;", 2, 35);
        fails("trick x worth 1:feet\"-l-r\"alone alone;", 2, 32);
        fails("trick x worth 1:feet\"-l-r\"left;", 2, 26);
        fails("trick x worth 1:feet\"-l-r\"5;", 2, 26);
        fails("beats 5;", 2, 0);
    }

    private static void faultKeepsAll() {
        TwoRopes x = new TwoRopes();
        Check.book(x, "trick x worth 7:feet\"-l-r\";");
        Check.routine(x, "beats 3;at 0 2 in left;at 1 2 does x;");
        CHECK.due("run", x.run(), 7);
        CHECK.due("bad book", Check.book(x, "trick y worth 8:feet\"-b--\";trick y"), -1);
        CHECK.due("fault", x.fault(0), 3);
        CHECK.due("place", x.fault(1), 33);
        CHECK.due("the TAPE is empty", x.about(5), 0);
        CHECK.due("tricks stay", x.about(0), 1);
        CHECK.due("worth stays", x.trick(0, false, 1), 7);
        CHECK.due("lines stay", x.about(1), 2);
        CHECK.due("what was run stays", x.ran(3), 7);
        CHECK.due("run again", x.run(), 7);
        CHECK.due("good book", Check.book(x, "trick y worth 8:feet\"-b--\";trick z worth 9:feet\"-b--\";"), 2);
        CHECK.due("fault gone", x.fault(0), 0);
        CHECK.due("no routine", x.about(1), 0);
        CHECK.due("no run", x.run(), -100000);
        CHECK.due("none was run", x.ran(0), -1);
        CHECK.due("no miss", x.miss(0, 0), -1);
        CHECK.due("no done", x.done(0, 0), -1);
        CHECK.due("no mode", x.mode(0), -1);
        CHECK.due("no person", x.person(2, 0, 0), -1);
        CHECK.due("no feet", x.feet(2, 0), -1);
        CHECK.due("old name", Check.routine(x, "beats 3;at 1 2 does x;"), -1);
        CHECK.due("old name fault", x.fault(0), 5);
    }

    private static void limitsOfBooks() {
        StringBuilder text = new StringBuilder();
        for (int i = 0; i < 12; i++) {
            text.append("trick t").append((char) ('a' + i)).append(" worth ").append(i).append(":feet\"-l-r\";\n");
        }
        stands(text.toString(), 12);
        fails(text + "trick !", 2, text.length());
        fails(text + "!", 1, text.length());
    }

    private static TwoRopes yard() {
        TwoRopes x = new TwoRopes();
        Check.book(x, "trick run worth 5:feet\"-l-r\";trick hop worth 9:feet\"-l--\" from r;");
        return x;
    }

    private static void routineStands(String text, int lines) {
        TwoRopes x = yard();
        CHECK.due(text, Check.routine(x, text), lines);
        CHECK.due(text + " fault(0)", x.fault(0), 0);
        CHECK.due(text + " fault(1)", x.fault(1), -1);
        CHECK.due(text + " about(1)", x.about(1), lines);
        CHECK.due(text + " about(5)", x.about(5), 0);
        CHECK.due(text + " not run yet", x.ran(0), -1);
    }

    private static void routinesThatStand() {
        routineStands("beats 1;", 0);
        routineStands("beats 200;at 199 5 takes left;", 1);
        routineStands("beats 20;at 0 0 in left;at 0 1 out right;at 3 2 does run;at 3 3 does hop mirrored;at 19 4 takes right;", 5);
        StringBuilder text = new StringBuilder("beats 9;");
        for (int i = 0; i < 60; i++) {
            text.append("at 8 2 in left;");
        }
        routineStands(text.toString(), 60);
        routineFails(text + "at !", 2, text.length());
        routineFails(text + "!", 1, text.length());
    }

    private static void routineFails(String text, int fault, int place) {
        TwoRopes x = yard();
        CHECK.due(text, Check.routine(x, text), -1);
        CHECK.due(text + " fault(0)", x.fault(0), fault);
        CHECK.due(text + " fault(1)", x.fault(1), place);
        CHECK.due(text + " about(1)", x.about(1), 0);
        CHECK.due(text + " about(5)", x.about(5), 0);
        CHECK.due(text + " run", x.run(), -100000);
    }

    private static void routinesWithFaults() {
        routineFails("", 2, 0);
        routineFails("at", 2, 0);
        routineFails("beats", 2, 5);
        routineFails("beats 0;", 4, 6);
        routineFails("beats 201;", 4, 6);
        routineFails("beats 1000;", 1, 6);
        routineFails("beats 5", 2, 7);
        routineFails("beats 5;x", 2, 8);
        routineFails("beats 5;at 5 0 in left;", 4, 11);
        routineFails("beats 5;at 4 6 in left;", 4, 13);
        routineFails("beats 5;at 4 0 in left;at 3 0 in left;", 4, 26);
        routineFails("beats 5;at 4 0 up left;", 2, 15);
        routineFails("beats 5;at 4 0 in middle;", 2, 18);
        routineFails("beats 5;at 4 0 in l;", 2, 18);
        routineFails("beats 5;at 4 0 in;", 2, 17);
        routineFails("beats 5;at 4 0 in left", 2, 22);
        routineFails("beats 5;at 4 0 out run;", 2, 19);
        routineFails("beats 5;at 4 0 takes run;", 2, 21);
        routineFails("beats 5;at 4 0 in left mirrored;", 2, 23);
        routineFails("beats 5;at 4 0 does left;", 2, 20);
        routineFails("beats 5;at 4 0 does nobody;", 5, 20);
        routineFails("beats 5;at 4 0 does nobodyatall;", 1, 20);
        routineFails("beats 5;at 4 0 does run mirrored mirrored;", 2, 33);
        routineFails("beats 5;at 4 0 does run run;", 2, 24);
        routineFails("beats 5;at 4 in left;", 2, 13);
        routineFails("beats 5;at x", 2, 11);
        routineFails("beats 5;at 4x 0 in left;", 1, 11);
        routineFails("beats 5;at 4 0 in left;;", 2, 23);
    }

    /** What stood on the TAPE behind its end is no part of the text. */
    private static void cutTexts() {
        cutFails("trick x worth 5", 14, 14, 2);
        cutFails("trick x worth 5x", 15, 15, 2);
        cutFails("trick x worth 1234", 17, 17, 2);
        cutFails("trick xyzxyzxyz", 13, 13, 2);
        cutFails("trick x worth 5:feet\"-l-r\"", 25, 20, 1);
        cutFails("trick x worth 5:feet\"-l-r\"", 24, 20, 1);
        cutFails("trick x worth 5:feet\"-l-r\";", 26, 26, 2);
        TwoRopes x = new TwoRopes();
        Check.put(x, "trick x worth 5:feet\"-l-r\";trick");
        x.end(27);
        CHECK.due("cut behind a trick", x.book(), 1);
        Check.put(x, "beats 123;");
        x.end(9);
        CHECK.due("cut ahead of ;", x.routine(), -1);
        CHECK.due("its place", x.fault(1), 9);
    }

    private static void cutFails(String text, int end, int place, int fault) {
        TwoRopes x = new TwoRopes();
        Check.put(x, text);
        x.end(end);
        CHECK.due(text + " cut at " + end, x.book(), -1);
        CHECK.due(text + " cut at " + end + " fault", x.fault(0), fault);
        CHECK.due(text + " cut at " + end + " place", x.fault(1), place);
    }

    private static void faultOfRoutineKeeps() {
        TwoRopes x = yard();
        Check.routine(x, "beats 3;at 0 2 in left;at 1 2 does run;");
        CHECK.due("run", x.run(), 5);
        CHECK.due("bad", Check.routine(x, "beats 9;at 0 2 in up;"), -1);
        CHECK.due("lines stay", x.about(1), 2);
        CHECK.due("what was run stays", x.ran(0), 3);
        CHECK.due("again", x.run(), 5);
        CHECK.due("new one", Check.routine(x, "beats 9;"), 0);
        CHECK.due("not run yet", x.ran(0), -1);
        CHECK.due("no slip yet", x.slip(0, false, 0), -1);
        CHECK.due("run new", x.run(), 0);
        CHECK.due("beats of new", x.ran(0), 9);
    }
}

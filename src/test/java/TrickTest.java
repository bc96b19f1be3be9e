/** Promises 7 and 8: trick, sound. */
public final class TrickTest {
    private static final Check CHECK = new Check("TrickTest");

    public static void main(String[] args) {
        TwoRopes x = new TwoRopes();
        CHECK.due("book", Check.book(x, "trick one worth 999:feet\"-l-r-b--\"turn 1 from l facing 2 alone off b 1;"
            + "trick two worth 0:feet\"--------\"cross 0 off a 1;"
            + "trick three worth 8:feet\"-l-r-l-r-l-r-l-r-l-r-l-r-l-r-l-r\"turn 2 from b;"
            + "trick four worth 1:feet\"-l-l-lrl\"cross 0 to 1;"
            + "trick five worth 1:feet\"l--r--l-\"off a 0;"
            + "trick six worth 1:feet\"l---\"off b 0;"
            + "trick seven worth 1:feet\"--b-\"off b 0;"), 7);
        tellTold(x);
        tellMirrored(x);
        tellNone(x);
        sounds(x);
        CHECK.finish();
    }

    private static void row(TwoRopes x, int trick, boolean mirrored, int first, int... want) {
        for (int i = 0; i < want.length; i++) {
            int what = first + i;
            CHECK.due("trick(" + trick + ", " + mirrored + ", " + what + ")", x.trick(trick, mirrored, what), want[i]);
        }
    }

    private static void tellTold(TwoRopes x) {
        row(x, 0, false, 0, 2, 999, 1, 1, 2, 1, 3, -1, -1, -1, 0, 3, -1);
        row(x, 0, false, 20, 0, 1, 0, 2, 0, 3, 0, 0, -1);
        row(x, 1, false, 0, 2, 0, 0, 0, -1, 0, 0, -1, -1, -1, 1, 2, -1);
        row(x, 2, false, 0, 8, 8, 2, 3, -1, 0, 2);
        row(x, 2, false, 17, 0, -1, -1);
        row(x, 2, false, 50, 0, 2, -1);
        row(x, 3, false, 10, 1, 1, -1);
    }

    private static void tellMirrored(TwoRopes x) {
        row(x, 0, true, 0, 2, 999, 3, 2, 2, 1, 3, -1, -1, -1, 0, 3, -1);
        row(x, 0, true, 20, 0, 2, 0, 1, 0, 3, 0, 0, -1);
        row(x, 1, true, 0, 2, 0, 0, 0, -1, 0, 0, -1, -1, -1, 1, 2, -1);
        row(x, 2, true, 0, 8, 8, 2, 3, -1, 0, 1);
    }

    private static void tellNone(TwoRopes x) {
        int[] wrong = {-1, 7, 12, Integer.MIN_VALUE, Integer.MAX_VALUE};
        for (int trick : wrong) {
            CHECK.due("trick " + trick, x.trick(trick, false, 0), -1);
            CHECK.due("sound " + trick, x.sound(trick), -2);
        }
        for (int what : new int[] {-1, 7, 9, 12, 19, 28, 52, Integer.MIN_VALUE, Integer.MAX_VALUE}) {
            CHECK.due("what " + what, x.trick(0, true, what), -1);
        }
    }

    private static void sounds(TwoRopes x) {
        int[] want = {-1, -1, -1, -1, 6, 0, -1};
        for (int trick = 0; trick < want.length; trick++) {
            CHECK.due("sound(" + trick + ")", x.sound(trick), want[trick]);
        }
    }
}

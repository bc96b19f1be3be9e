/** Promises 7 and 8: each sentence that names a boundary case has a test of its own. */
public final class EdgeTrickTest {
    private static final Check CHECK = new Check("EdgeTrickTest");
    private static final int MIN = Integer.MIN_VALUE;
    private static final int MAX = Integer.MAX_VALUE;

    public static void main(String[] args) {
        noSuchTrick();
        noSuchWhat();
        beatsOfAll();
        nothingWanted();
        mirroredTurns();
        mirroredSides();
        footThatItLeaves();
        modesOfBeats();
        soundByModes();
        soundFirstTick();
        soundNone();
        CHECK.finish();
    }

    private static TwoRopes book(String text) {
        TwoRopes x = new TwoRopes();
        if (Check.book(x, text) < 0) {
            CHECK.due("FAULT of " + text, x.fault(0), 0);
        }
        return x;
    }

    private static void both(TwoRopes x, int trick, int what, int plain, int mirrored) {
        CHECK.due("trick(" + trick + ", false, " + what + ")", x.trick(trick, false, what), plain);
        CHECK.due("trick(" + trick + ", true, " + what + ")", x.trick(trick, true, what), mirrored);
    }

    private static void noSuchTrick() {
        CHECK.of("7: NONE if there is none such");
        TwoRopes x = book("trick x worth 1:feet\"-l-r\";trick y worth 2:feet\"-l-r\";");
        both(x, 0, 1, 1, 1);
        both(x, 1, 1, 2, 2);
        for (int trick : new int[] {-1, 2, 3, 11, 12, 13, MIN, MAX}) {
            for (int what : new int[] {0, 1, 4, 6, 10, 20}) {
                both(x, trick, what, -1, -1);
            }
        }
        StringBuilder text = new StringBuilder();
        for (int i = 0; i < 12; i++) {
            text.append("trick t").append((char) ('a' + i)).append(" worth ").append(i).append(":feet\"-l-r\";");
        }
        x = book(text.toString());
        both(x, 11, 1, 11, 11);
        both(x, 12, 1, -1, -1);
        // those of a longer BOOK before are gone
        Check.book(x, "trick x worth 1:feet\"-l-r\";");
        both(x, 0, 1, 1, 1);
        both(x, 1, 1, -1, -1);
    }

    private static void noSuchWhat() {
        CHECK.of("7: NONE if there is none such (what)");
        for (int beats = 1; beats <= 8; beats++) {
            TwoRopes x = book("trick x worth 1:feet\"" + "-l-r".repeat(beats) + "\"cross 0 to " + (beats - 1) + " turn 1 from l facing 1 alone;");
            both(x, 0, 9 + beats, 1, 1);
            both(x, 0, 10 + beats, -1, -1);
            both(x, 0, 19 + 4 * beats, 2, 1);
            both(x, 0, 20 + 4 * beats, -1, -1);
            for (int what : new int[] {-1, 7, 8, 9, 18, 19, 52, 53, MIN, MAX}) {
                both(x, 0, what, -1, -1);
            }
        }
    }

    private static void beatsOfAll() {
        CHECK.of("7: what 0: BEATS, 1: worth (FEET of 4 to 32 signs)");
        for (int beats = 1; beats <= 8; beats++) {
            TwoRopes x = book("trick x worth 999:feet\"" + "-".repeat(4 * beats) + "\";");
            both(x, 0, 0, beats, beats);
            both(x, 0, 1, 999, 999);
        }
    }

    private static void nothingWanted() {
        CHECK.of("7: 2: turn (0 .. 3), 3: from (0 any), 4: facing (NONE any), 5: 1 if it is alone, 6: (0: as before)");
        TwoRopes x = book("trick x worth 0:feet\"----\";trick y worth 0:feet\"----\"turn 1 from l facing 0 alone;trick z worth 0:feet\"----\";");
        for (int trick : new int[] {0, 2}) {
            both(x, trick, 2, 0, 0);
            both(x, trick, 3, 0, 0);
            both(x, trick, 4, -1, -1);
            both(x, trick, 5, 0, 0);
            both(x, trick, 6, 0, 0);
            both(x, trick, 10, 0, 0);
        }
        both(x, 1, 4, 0, 0);
        both(x, 1, 5, 1, 1);
        // a BOOK that comes into the place of another has nothing of it
        Check.book(x, "trick x worth 5:feet\"-l-r-l-r-l-r\"cross 0 to 2 turn 1 from l facing 3 alone;");
        Check.book(x, "trick x worth 0:feet\"--------\";");
        Check.book(x, "trick x worth 0:feet\"--------\";");
        for (int what = 1; what <= 6; what++) {
            both(x, 0, what, what == 4 ? -1 : 0, what == 4 ? -1 : 0);
        }
        both(x, 0, 11, 0, 0);
        both(x, 0, 21, 0, 0);
    }

    private static void mirroredTurns() {
        CHECK.of("MIRRORED a trick turns as far the other way");
        int[] mirrored = {0, 3, 2, 1};
        for (int turn = 0; turn <= 3; turn++) {
            TwoRopes x = book("trick x worth 1:feet\"-l-r\"" + (turn == 0 ? "" : "turn " + turn) + ";");
            both(x, 0, 2, turn, mirrored[turn]);
        }
    }

    private static void mirroredSides() {
        CHECK.of("MIRRORED a trick has l for r and r for l (in FEET and from); else it is the same");
        TwoRopes x = book("trick x worth 7:feet\"-lrbb-l-\"off a 0 cross 1 from l facing 3 alone;trick y worth 7:feet\"-l-r\"from r facing 1;"
            + "trick z worth 7:feet\"-b-b\"from b;");
        int[] plain = {0, 1, 2, 3, 3, 0, 1, 0};
        int[] mirrored = {0, 2, 1, 3, 3, 0, 2, 0};
        for (int tick = 0; tick < plain.length; tick++) {
            both(x, 0, 20 + tick, plain[tick], mirrored[tick]);
        }
        both(x, 0, 3, 1, 2);
        both(x, 1, 3, 2, 1);
        both(x, 2, 3, 3, 3);
        both(x, 0, 4, 3, 3);
        both(x, 1, 4, 1, 1);
        both(x, 0, 5, 1, 1);
        both(x, 0, 10, 2, 2);
        both(x, 0, 11, 1, 1);
    }

    private static void footThatItLeaves() {
        CHECK.of("After a trick the FOOT is that of the last sign that is not - (l, r, b; as before if there is none)");
        String[] signs = {"----", "l---", "-r--", "---b", "rrrl", "bbbr", "lrb-", "l-------", "-------r", "---l----", "----r---", "-".repeat(32),
            "b" + "-".repeat(31), "-".repeat(31) + "l"};
        int[] plain = {0, 1, 2, 3, 1, 2, 3, 1, 2, 1, 2, 0, 3, 1};
        int[] mirrored = {0, 2, 1, 3, 2, 1, 3, 2, 1, 2, 1, 0, 3, 2};
        for (int i = 0; i < signs.length; i++) {
            TwoRopes x = book("trick x worth 1:feet\"" + signs[i] + "\";");
            both(x, 0, 6, plain[i], mirrored[i]);
        }
    }

    private static void modesOfBeats() {
        CHECK.of("7: 10 + n: MODE of its BEAT n (its other BEATS are plain)");
        TwoRopes x = book("trick x worth 1:feet\"" + "-".repeat(32) + "\"off b 7 cross 0 off a 3 to 5;");
        int[] want = {1, 0, 0, 2, 2, 2, 0, 3};
        for (int beat = 0; beat < want.length; beat++) {
            both(x, 0, 10 + beat, want[beat], want[beat]);
        }
    }

    private static void soundByModes() {
        CHECK.of("In a plain one a passes at 0, b at 2; crossed both at 0; a off, b at 2 alone; b off, a at 0 alone; SOUND: no foot is down at such a TICK");
        String[] parts = {"", "cross 1", "off a 1", "off b 1"};
        String[] passing = {"02", "0", "2", "0"};
        for (int mode = 0; mode < 4; mode++) {
            for (int tick = 0; tick < 4; tick++) {
                for (char foot : new char[] {'l', 'r', 'b'}) {
                    StringBuilder signs = new StringBuilder("------------");
                    signs.setCharAt(4 + tick, foot);
                    TwoRopes x = book("trick x worth 1:feet\"" + signs + "\"" + parts[mode] + ";");
                    CHECK.due(signs + " " + parts[mode], x.sound(0), passing[mode].indexOf('0' + tick) >= 0 ? 4 + tick : -1);
                }
            }
        }
    }

    private static void soundFirstTick() {
        CHECK.of("8: The first TICK of a trick at which a foot is down as a rope passes; NONE if it is SOUND");
        String[] signs = {"bbbb", "-bbb", "-b-b", "----", "-l-r----l---", "-l-r-l-r--b-", "l-------b---", "-".repeat(30) + "r-", "-".repeat(31) + "r"};
        int[] want = {0, 2, -1, -1, 8, 10, 0, 30, -1};
        for (int i = 0; i < signs.length; i++) {
            TwoRopes x = book("trick x worth 1:feet\"" + signs[i] + "\";");
            CHECK.due("sound of " + signs[i], x.sound(0), want[i]);
        }
    }

    private static void soundNone() {
        CHECK.of("8: -2 if there is none such");
        TwoRopes x = new TwoRopes();
        CHECK.due("new", x.sound(0), -2);
        Check.book(x, "trick x worth 1:feet\"-l-r\";");
        for (int trick : new int[] {-1, 1, 2, 11, 12, MIN, MAX}) {
            CHECK.due("sound(" + trick + ")", x.sound(trick), -2);
        }
        CHECK.due("sound(0)", x.sound(0), -1);
    }
}

import java.util.Random;

/** Promises 17 and 18: best, joined. */
public final class JoinTest {
    private static final Check CHECK = new Check("JoinTest");

    public static void main(String[] args) {
        empty();
        wrongInputs();
        orders();
        chains();
        twelve();
        newBook();
        againstAllRows();
        CHECK.finish();
    }

    private static void row(TwoRopes x, int n, int foot, int faces, int worth, int... ways) {
        String asked = n + " " + foot + " " + faces;
        CHECK.due("best " + asked, x.best(n, foot, faces), worth);
        for (int k = 0; k < ways.length; k++) {
            CHECK.due("joined " + asked + " " + k + " number", x.joined(n, foot, faces, k, 0), ways[k] / 2);
            CHECK.due("joined " + asked + " " + k + " mirrored", x.joined(n, foot, faces, k, 1), ways[k] % 2);
        }
        CHECK.due("joined " + asked + " behind", x.joined(n, foot, faces, ways.length, 0), -1);
    }

    private static void empty() {
        TwoRopes x = new TwoRopes();
        row(x, 0, 0, 0, 0);
        row(x, 200, 3, 3, 0);
    }

    private static void wrongInputs() {
        TwoRopes x = new TwoRopes();
        Check.book(x, "trick x worth 5:feet\"-l-r\";");
        int[][] wrong = {{-1, 0, 0}, {201, 0, 0}, {1, -1, 0}, {1, 4, 0}, {1, 0, -1}, {1, 0, 4},
            {Integer.MIN_VALUE, 0, 0}, {1, Integer.MAX_VALUE, 0}, {1, 0, Integer.MIN_VALUE}};
        for (int[] w : wrong) {
            CHECK.due("best", x.best(w[0], w[1], w[2]), -1);
            CHECK.due("joined", x.joined(w[0], w[1], w[2], 0, 0), -1);
        }
        for (int w : new int[] {-1, 2, Integer.MIN_VALUE, Integer.MAX_VALUE}) {
            CHECK.due("k " + w, x.joined(1, 0, 0, w, 0), -1);
            CHECK.due("what " + w, x.joined(1, 0, 0, 0, w), -1);
        }
        row(x, 0, 0, 0, 0);
        row(x, 1, 0, 0, 5, 0);
        row(x, 200, 0, 0, 5, 0);
    }

    private static void orders() {
        TwoRopes x = new TwoRopes();
        // like worth: fewer BEATS, then the least set; worth 0 is not done
        Check.book(x, "trick c worth 6:feet\"-l-r-l-r\";trick d worth 6:feet\"-l-r\";trick e worth 6:feet\"-l-r\";trick f worth 0:feet\"-l-r\";");
        row(x, 1, 0, 0, 6, 2);
        row(x, 2, 0, 0, 12, 2, 4);
        row(x, 3, 0, 0, 12, 2, 4);
        row(x, 4, 0, 0, 18, 0, 2, 4);
        row(x, 200, 0, 0, 18, 0, 2, 4);
        // the least set as bits is not the first by numbers
        Check.book(x, "trick c worth 6:feet\"-l-r\";trick d worth 5:feet\"-l-r\";trick e worth 5:feet\"-l-r\";trick f worth 4:feet\"-l-r\";");
        row(x, 2, 0, 0, 11, 0, 2);
        Check.book(x, "trick c worth 6:feet\"-l-r\";trick d worth 4:feet\"-l-r\";trick e worth 5:feet\"-l-r\";trick f worth 3:feet\"-l-r\";"
            + "trick g worth 1:feet\"-l-r-l-r-l-r\" from b;");
        row(x, 1, 3, 0, 6, 0);
        // not SOUND
        Check.book(x, "trick c worth 600:feet\"l---\";trick d worth 5:feet\"-l-r\";");
        row(x, 9, 0, 0, 5, 2);
    }

    private static void chains() {
        TwoRopes x = new TwoRopes();
        // d wants r: c leaves r plain, l mirrored; d mirrored wants l
        Check.book(x, "trick c worth 1:feet\"-l-r\"from l;trick d worth 1:feet\"-b--\"from r;");
        row(x, 2, 1, 0, 2, 0, 2);
        row(x, 2, 2, 0, 2, 1, 3);
        row(x, 2, 3, 0, 0);
        row(x, 1, 1, 0, 1, 0);
        // FACES: a turn to the right, or mirrored to the left
        Check.book(x, "trick c worth 1:feet\"-b--\"turn 1;trick d worth 1:feet\"-b--\"facing 3;");
        row(x, 2, 0, 0, 2, 1, 2);
        row(x, 2, 0, 2, 2, 0, 2);
        row(x, 2, 0, 3, 2, 2, 0);
        row(x, 2, 0, 1, 1, 0);
        // no foot down: FOOT is as before
        Check.book(x, "trick c worth 1:feet\"----\";trick d worth 1:feet\"-l--\"from b;");
        row(x, 2, 3, 0, 2, 0, 2);
        row(x, 2, 2, 0, 1, 0);
        // plain ahead of mirrored; the mirrored one only where it must be
        Check.book(x, "trick c worth 1:feet\"-l--\";trick d worth 1:feet\"-b--\"from l;trick e worth 1:feet\"----\"from b;");
        row(x, 3, 0, 0, 3, 0, 2, 4);
        row(x, 3, 2, 0, 3, 0, 2, 4);
    }

    private static void twelve() {
        TwoRopes x = new TwoRopes();
        StringBuilder text = new StringBuilder();
        for (int i = 0; i < 12; i++) {
            text.append("trick t").append((char) ('a' + i)).append(" worth 999:feet\"").append("-l-r".repeat(8)).append("\";");
        }
        Check.book(x, text.toString());
        row(x, 200, 0, 0, 999 * 12, 0, 2, 4, 6, 8, 10, 12, 14, 16, 18, 20, 22);
        row(x, 96, 0, 0, 999 * 12, 0, 2, 4, 6, 8, 10, 12, 14, 16, 18, 20, 22);
        row(x, 95, 0, 0, 999 * 11, 0, 2, 4, 6, 8, 10, 12, 14, 16, 18, 20);
        row(x, 8, 0, 0, 999, 0);
        row(x, 7, 0, 0, 0);
    }

    private static void newBook() {
        TwoRopes x = new TwoRopes();
        Check.book(x, "trick c worth 3:feet\"-l-r\";trick d worth 4:feet\"-l-r\";");
        row(x, 5, 0, 0, 7, 0, 2);
        Check.book(x, "trick c worth 9:feet\"-l-r\";");
        row(x, 5, 0, 0, 9, 0);
        Check.book(x, "trick c worth 8:feet\"-l-r\"; trick c");
        row(x, 5, 0, 0, 9, 0);
        Check.book(x, "");
        row(x, 5, 0, 0, 0);
    }

    private static void againstAllRows() {
        Random chance = new Random(5);
        String[] usual = {"-l-r", "-r-l", "-b--", "-l--", "----", "-b-r", "r--l"};
        for (int book = 0; book < 12; book++) {
            TwoRopes x = new TwoRopes();
            Model m = new Model();
            StringBuilder text = new StringBuilder();
            for (int i = 0; i < 8; i++) {
                text.append("trick t").append((char) ('a' + i)).append(" worth ").append(chance.nextInt(5)).append(":feet\"");
                text.append(usual[chance.nextInt(7)]).append(chance.nextInt(3) == 0 ? usual[chance.nextInt(6)] : "").append('"');
                text.append(chance.nextInt(2) == 0 ? " turn " + (1 + chance.nextInt(3)) : "");
                text.append(" from ").append("lrb".charAt(chance.nextInt(3)));
                text.append(chance.nextInt(2) == 0 ? " facing " + chance.nextInt(4) : "").append(";");
            }
            Check.book(x, text.toString());
            byte[] bytes = text.toString().getBytes();
            for (int i = 0; i < bytes.length; i += 20) {
                m.feed(Check.four(bytes, i), Check.four(bytes, i + 4), Check.four(bytes, i + 8), Check.four(bytes, i + 12), Check.four(bytes, i + 16));
            }
            m.end(bytes.length);
            m.book();
            for (int i = 0; i < 10; i++) {
                int n = chance.nextInt(12);
                int foot = chance.nextInt(4);
                int faces = chance.nextInt(4);
                CHECK.due(text + " best", x.best(n, foot, faces), m.best(n, foot, faces));
                for (int k = 0; k < 5; k++) {
                    CHECK.due(text + " joined " + k, x.joined(n, foot, faces, k, 0), m.joined(n, foot, faces, k, 0));
                    CHECK.due(text + " mirrored " + k, x.joined(n, foot, faces, k, 1), m.joined(n, foot, faces, k, 1));
                }
            }
        }
    }
}

import java.nio.charset.StandardCharsets;

/** Counts what a test asks, prints each wrong answer, and ends the test with code 1 if there was one. */
final class Check {
    private final String name;
    private String sentence = "";
    private int asked;
    private int wrong;

    Check(String name) {
        this.name = name;
    }

    /** The document's sentence that the answers from here on are asked for. */
    void of(String newSentence) {
        sentence = newSentence;
    }

    void due(String call, long got, long want) {
        asked++;
        if (got != want) {
            wrong++;
            String why = sentence.isEmpty() ? "" : " [" + sentence + "]";
            System.out.println(name + ": " + call + " answered " + got + ", due is " + want + why);
        }
    }

    void due(String call, boolean got, boolean want) {
        due(call, got ? 1 : 0, want ? 1 : 0);
    }

    /** Puts a text behind what is on the TAPE. */
    static void put(TwoRopes x, String text) {
        byte[] bytes = text.getBytes(StandardCharsets.ISO_8859_1);
        int end = x.about(5) + bytes.length;
        for (int i = 0; i < bytes.length; i += 20) {
            x.feed(four(bytes, i), four(bytes, i + 4), four(bytes, i + 8), four(bytes, i + 12), four(bytes, i + 16));
        }
        x.end(end);
    }

    static int four(byte[] bytes, int from) {
        int four = 0;
        for (int i = from; i < from + 4; i++) {
            four = four << 8 | (i < bytes.length ? bytes[i] & 255 : ' ');
        }
        return four;
    }

    static int book(TwoRopes x, String text) {
        put(x, text);
        return x.book();
    }

    static int routine(TwoRopes x, String text) {
        put(x, text);
        return x.routine();
    }

    static int rhyme(TwoRopes x, String text) {
        put(x, text);
        return x.rhyme();
    }

    static int tape(TwoRopes x, String signs, int judge, int person, int beat) {
        put(x, signs);
        return x.tape(judge, person, beat);
    }

    void finish() {
        System.out.println(name + ": " + asked + " answers, " + wrong + " wrong");
        if (wrong != 0) {
            System.exit(1);
        }
    }
}

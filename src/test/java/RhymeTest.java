import java.util.ArrayList;
import java.util.List;

/** Promises 19 to 21: rhyme, word, stays. */
public final class RhymeTest {
    private static final Check CHECK = new Check("RhymeTest");

    public static void main(String[] args) {
        words("", 0);
        words(" .,!9", 0);
        words("x", 1, 0);
        words("eeny meeny miny moe", 7, 0, 2, 4, 6);
        words("Apple9pie", 2, 0, 1);
        words("strengths brr rhythm", 3, 0, 1, 2);
        words("yoyo aeiouy banana\nqueue", 6, 0, 1, 2, 5);
        words("incomprehensibilities", 8, 0);
        words("caf\u00e9s", 2, 0, 1);
        limits();
        cut();
        counting();
        CHECK.finish();
    }

    private static void words(String text, int syllables, int... starts) {
        TwoRopes x = new TwoRopes();
        CHECK.due(text, Check.rhyme(x, text), syllables);
        CHECK.due(text + " words", x.about(4), starts.length);
        CHECK.due(text + " bytes", x.about(5), 0);
        for (int k = 0; k < starts.length; k++) {
            CHECK.due(text + " word(" + k + ")", x.word(k), starts[k]);
        }
        for (int k : new int[] {-1, starts.length, Integer.MIN_VALUE, Integer.MAX_VALUE}) {
            CHECK.due(text + " word(" + k + ")", x.word(k), -1);
        }
    }

    private static void limits() {
        TwoRopes x = new TwoRopes();
        CHECK.due("150 words", Check.rhyme(x, "a ".repeat(150)), 150);
        CHECK.due("last word", x.word(149), 149);
        Check.put(x, "b".repeat(301));
        CHECK.due("301 bytes", x.rhyme(), -1);
        CHECK.due("TAPE stays", x.about(5), 301);
        CHECK.due("RHYME stays", x.about(4), 150);
        x.end(300);
        CHECK.due("300 bytes", x.rhyme(), 1);
        CHECK.due("one word", x.about(4), 1);
        CHECK.due("ab", Check.rhyme(x, "ab".repeat(150)), 150);
        CHECK.due("new one", x.about(4), 1);
    }

    /** What stood on the TAPE behind its end is no part of the RHYME. */
    private static void cut() {
        TwoRopes x = new TwoRopes();
        Check.put(x, "banana nut");
        x.end(3);
        CHECK.due("ban", x.rhyme(), 1);
        CHECK.due("words of ban", x.about(4), 1);
        Check.put(x, "ba bananana");
        x.end(3);
        CHECK.due("ba and a blank", x.rhyme(), 1);
        CHECK.due("words of ba", x.about(4), 1);
    }

    private static void counting() {
        TwoRopes x = new TwoRopes();
        CHECK.due("no RHYME", x.stays(1), -1);
        for (int syllables : new int[] {1, 2, 3, 7, 16, 99, 150}) {
            x = new TwoRopes();
            Check.rhyme(x, "a ".repeat(syllables));
            for (int n = 1; n <= 100; n++) {
                CHECK.due(syllables + " stays(" + n + ")", x.stays(n), ring(n, syllables));
            }
            for (int n : new int[] {0, -1, 101, Integer.MIN_VALUE, Integer.MAX_VALUE}) {
                CHECK.due(syllables + " stays(" + n + ")", x.stays(n), -1);
            }
        }
    }

    private static int ring(int n, int syllables) {
        List<Integer> ring = new ArrayList<>();
        for (int i = 0; i < n; i++) {
            ring.add(i);
        }
        int first = 0;
        while (ring.size() > 1) {
            int child = first;
            for (int syllable = 1; syllable < syllables; syllable++) {
                child = child + 1 == ring.size() ? 0 : child + 1;
            }
            ring.remove(child);
            first = child == ring.size() ? 0 : child;
        }
        return ring.get(0);
    }
}

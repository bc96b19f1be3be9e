import java.util.ArrayList;
import java.util.List;

/** Promises 19 to 21: each sentence that names a boundary case has a test of its own. */
public final class EdgeRhymeTest {
    private static final Check CHECK = new Check("EdgeRhymeTest");
    private static final int MIN = Integer.MIN_VALUE;
    private static final int MAX = Integer.MAX_VALUE;

    public static void main(String[] args) {
        tooLong();
        emptiesTape();
        noWords();
        letters();
        anyLength();
        vowels();
        oneAtLeast();
        runsInOneWord();
        noSuchWord();
        noSuchRing();
        noSyllables();
        ringOfOne();
        aroundTheRing();
        CHECK.finish();
    }

    private static TwoRopes rhyme(String text, int syllables, int... starts) {
        TwoRopes x = new TwoRopes();
        CHECK.due("rhyme of " + text, Check.rhyme(x, text), syllables);
        CHECK.due("words of " + text, x.about(4), starts.length);
        for (int k = 0; k < starts.length; k++) {
            CHECK.due("word(" + k + ") of " + text, x.word(k), starts[k]);
        }
        CHECK.due("word behind the last of " + text, x.word(starts.length), -1);
        return x;
    }

    private static void tooLong() {
        CHECK.of("19: NONE, and the TAPE stays: more than 300 bytes");
        TwoRopes x = rhyme("ten two", 2, 0, 1);
        for (int length : new int[] {301, 302, 1400}) {
            x.end(0);
            Check.put(x, "a ".repeat(length / 2) + (length % 2 == 1 ? "b" : ""));
            CHECK.due(length + " bytes", x.rhyme(), -1);
            CHECK.due("the TAPE stays", x.about(5), length);
            CHECK.due("the RHYME stays", x.about(4), 2);
            CHECK.due("the RHYME stays", x.word(1), 1);
            CHECK.due("the RHYME stays", x.stays(3), 2);
        }
        x.end(300);
        CHECK.due("300 bytes", x.rhyme(), 150);
        CHECK.due("bytes", x.about(5), 0);
        CHECK.due("words", x.about(4), 150);
        CHECK.due("the last word", x.word(149), 149);
        CHECK.due("behind it", x.word(150), -1);
        Check.put(x, " ".repeat(299) + "e");
        CHECK.due("the last byte counts", x.rhyme(), 1);
    }

    private static void emptiesTape() {
        CHECK.of("19: The TAPE (empty then) is the RHYME: how many SYLLABLES");
        TwoRopes x = rhyme("ten two", 2, 0, 1);
        CHECK.due("bytes", x.about(5), 0);
        CHECK.due("the empty TAPE is a RHYME", x.rhyme(), 0);
        CHECK.due("words", x.about(4), 0);
        CHECK.due("word(0)", x.word(0), -1);
    }

    private static void noWords() {
        CHECK.of("A RHYME without letters has no words");
        rhyme("", 0);
        rhyme(" ", 0);
        rhyme("123 !? AEIOU \n\t", 0);
    }

    private static void letters() {
        CHECK.of("words of letters (a .. z), anything else parts them");
        rhyme("a", 1, 0);
        rhyme("z", 1, 0);
        rhyme("za", 1, 0);
        for (char sign : new char[] {'`', '{', 'A', 'Z', '0', '9', '-', '\'', '\n', 0, 127, 128, 225, 250, 255}) {
            rhyme("a" + sign + "z", 2, 0, 1);
            rhyme(sign + "a" + sign, 1, 0);
        }
        rhyme("a  .. b", 2, 0, 1);
    }

    private static void anyLength() {
        CHECK.of("words of any length");
        rhyme("x".repeat(300), 1, 0);
        rhyme("ba".repeat(150), 150, 0);
        rhyme("a".repeat(300), 1, 0);
        rhyme("x".repeat(298) + " y", 2, 0, 1);
        rhyme("incomprehensibilities", 8, 0);
    }

    private static void vowels() {
        CHECK.of("runs of a e i o u y");
        for (char letter = 'a'; letter <= 'z'; letter++) {
            boolean vowel = "aeiouy".indexOf(letter) >= 0;
            rhyme("xa" + letter + "ax", vowel ? 1 : 2, 0);
            rhyme("x" + letter + "x" + letter + "x", vowel ? 2 : 1, 0);
        }
    }

    private static void oneAtLeast() {
        CHECK.of("A word has SYLLABLES, one at least");
        rhyme("b", 1, 0);
        rhyme("b c d", 3, 0, 1, 2);
        rhyme("brr nth pfft", 3, 0, 1, 2);
        rhyme("b banana b", 5, 0, 1, 4);
    }

    private static void runsInOneWord() {
        CHECK.of("as many SYLLABLES as it has runs; a run ends with its word");
        rhyme("a a", 2, 0, 1);
        rhyme("ae", 1, 0);
        rhyme("aba", 2, 0);
        rhyme("ba ab", 2, 0, 1);
        rhyme("queue eye", 2, 0, 1);
        rhyme("tea area b", 4, 0, 1, 3);
    }

    private static void noSuchWord() {
        CHECK.of("20: NONE if there is none such");
        TwoRopes x = new TwoRopes();
        CHECK.due("no RHYME", x.word(0), -1);
        Check.rhyme(x, "banana tree");
        CHECK.due("word(0)", x.word(0), 0);
        CHECK.due("word(1)", x.word(1), 3);
        for (int k : new int[] {-1, 2, 3, 149, 150, 299, 300, 301, MIN, MAX}) {
            CHECK.due("word(" + k + ")", x.word(k), -1);
        }
        Check.rhyme(x, "one");
        CHECK.due("of the RHYME before", x.word(1), -1);
    }

    private static void noSuchRing() {
        CHECK.of("21: n children (1 .. 100); NONE for another n");
        TwoRopes x = rhyme("one two three", 4, 0, 2, 3);
        for (int n : new int[] {0, -1, -100, 101, 102, MIN, MAX}) {
            CHECK.due("stays(" + n + ")", x.stays(n), -1);
        }
        for (int n : new int[] {1, 2, 99, 100}) {
            CHECK.due("stays(" + n + ")", x.stays(n), ring(n, 4));
        }
    }

    private static void noSyllables() {
        CHECK.of("21: NONE without SYLLABLES");
        TwoRopes x = new TwoRopes();
        CHECK.due("no RHYME", x.stays(1), -1);
        CHECK.due("no RHYME", x.stays(100), -1);
        Check.rhyme(x, "a");
        CHECK.due("one SYLLABLE", x.stays(1), 0);
        Check.rhyme(x, "123");
        CHECK.due("none", x.stays(1), -1);
        CHECK.due("none", x.stays(5), -1);
    }

    private static void ringOfOne() {
        CHECK.of("COUNTED OUT: the last one stays (numbers from 0 on)");
        for (int syllables : new int[] {1, 2, 150}) {
            TwoRopes x = new TwoRopes();
            Check.rhyme(x, "a ".repeat(syllables));
            CHECK.due(syllables + " of one", x.stays(1), 0);
        }
        TwoRopes x = rhyme("a", 1, 0);
        for (int n = 1; n <= 100; n++) {
            CHECK.due("by one SYLLABLE the last of the ring stays", x.stays(n), n - 1);
        }
    }

    private static void aroundTheRing() {
        CHECK.of("from the first on each SYLLABLE falls on the next one; then anew from the one behind");
        TwoRopes x = rhyme("a a", 2, 0, 1);
        int[] byTwo = {0, 0, 2, 0, 2, 4, 6, 0};
        for (int n = 1; n <= byTwo.length; n++) {
            CHECK.due("by two of " + n, x.stays(n), byTwo[n - 1]);
        }
        for (int syllables : new int[] {3, 5, 6, 7, 99, 100, 101, 150}) {
            x = new TwoRopes();
            Check.rhyme(x, "a ".repeat(syllables));
            for (int n = 1; n <= 100; n++) {
                CHECK.due("by " + syllables + " of " + n, x.stays(n), ring(n, syllables));
            }
        }
    }

    private static int ring(int n, int syllables) {
        List<Integer> ring = new ArrayList<>();
        for (int i = 0; i < n; i++) {
            ring.add(i);
        }
        int at = 0;
        while (ring.size() > 1) {
            at = (at + syllables - 1) % ring.size();
            ring.remove(at);
        }
        return ring.get(0);
    }
}

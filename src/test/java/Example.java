/** How the class is used; README.md has this file and what it prints word for word (ReadmeTest). */
public final class Example {
    public static void main(String[] args) {
        TwoRopes yard = new TwoRopes();
        put(yard, "trick run worth 5 : feet \"-l-r\";");
        put(yard, "trick dub worth 30 : feet \"-b--\" cross 0;");
        put(yard, "trick spin worth 20 : feet \"-l-r-l-r\" turn 1 from l;");
        tell("tricks of the BOOK", yard.book());
        tell("FACES that spin turns by, mirrored", yard.trick(2, true, 2));
        tell("worth of BEST in 3 BEATS with the left foot down", yard.best(3, 1, 0));
        tell("its first trick", yard.joined(3, 1, 0, 0, 0));

        put(yard, "beats 8; at 0 2 in left; at 1 2 does spin; at 3 2 does dub; at 4 3 in left; at 5 3 in left;");
        tell("lines of the ROUTINE", yard.routine());
        tell("SCORE", yard.run());
        tell("MISSES", yard.ran(1));
        tell("law of the first one", yard.miss(0, 1));
        tell("what is GAINED by the second trick DONE", yard.done(1, 4));

        put(yard, "beats 8; at 9 2 in left;");
        tell("a text with a FAULT", yard.routine());
        tell("which one", yard.fault(0));
        tell("its place", yard.fault(1));

        put(yard, "eeny meeny miny moe");
        tell("SYLLABLES of the RHYME", yard.rhyme());
        tell("who stays of three children", yard.stays(3));

        put(yard, "-r-l??-r");
        tell("TAPE of JUDGE 0, of PERSON 2, from BEAT 0 on", yard.tape(0, 2, 0));
        tell("least STEPS of the right foot", yard.steps(2, 2, 0, 7, false, 0));
        tell("most", yard.steps(2, 2, 0, 7, true, 0));
        tell("the first SLIP that may be", yard.slip(2, false, 0));
    }

    /** Puts a text behind what is on the TAPE: blanks fill up the last twenty bytes and are cut off again. */
    private static void put(TwoRopes yard, String text) {
        int end = yard.about(5) + text.length();
        for (int i = 0; i < text.length(); i += 20) {
            yard.feed(four(text, i), four(text, i + 4), four(text, i + 8), four(text, i + 12), four(text, i + 16));
        }
        yard.end(end);
    }

    private static int four(String text, int from) {
        int four = 0;
        for (int i = from; i < from + 4; i++) {
            four = four << 8 | (i < text.length() ? text.charAt(i) : ' ');
        }
        return four;
    }

    private static void tell(String what, int answer) {
        System.out.println(what + ": " + answer);
    }
}

import java.nio.charset.StandardCharsets;
import java.util.ArrayList;
import java.util.Arrays;
import java.util.List;
import java.util.Random;

/** Long runs of calls, by chance from fixed seeds, on the class and on the model: all answers must be the same. */
public final class ModelTest {
    private static final String[] NAMES = {"run", "jump", "spin", "dub", "solo", "bad", "idle", "hop", "kick", "wave", "sit", "roll", "eightlet", "go"};
    private static final int[] EXTREMES = {Integer.MIN_VALUE, Integer.MAX_VALUE, -1, -2, 200, 800, 1000000};

    // An object is used for at most 512 calls.
    private static final int MOST_CALLS = 512;
    private static final int MOST_CALLS_OF_ONE_STEP = 130;

    private final Check check;
    private final Random chance;
    private final TwoRopes x = new TwoRopes();
    private final Model m = new Model();
    private final String run;
    private int calls;

    private ModelTest(Check check, long seed) {
        this.check = check;
        this.run = "run " + seed + " ";
        this.chance = new Random(seed);
    }

    public static void main(String[] args) {
        Check check = new Check("ModelTest");
        int runs = args.length > 0 ? Integer.parseInt(args[0]) : 500;
        for (int seed = 0; seed < runs; seed++) {
            new ModelTest(check, seed).go();
        }
        check.finish();
    }

    private void same(String call, int got, int want) {
        calls++;
        check.due(run + "call " + calls + " " + call, got, want);
    }

    private void same(String call, boolean got, boolean want) {
        same(call, got ? 1 : 0, want ? 1 : 0);
    }

    private int below(int n) {
        return chance.nextInt(n);
    }

    private boolean oneIn(int n) {
        return chance.nextInt(n) == 0;
    }

    /** Mostly -1 .. n, now and then far off. */
    private int near(int n) {
        return oneIn(40) ? EXTREMES[below(EXTREMES.length)] : below(n + 2) - 1;
    }

    private void go() {
        while (calls + MOST_CALLS_OF_ONE_STEP <= MOST_CALLS) {
            switch (below(12)) {
                case 0: text(aBook()); same("book", x.book(), m.book()); faults(); tricks(); break;
                case 1: case 2: text(aRoutine()); same("routine", x.routine(), m.routine()); faults(); break;
                case 3: case 4: same("run", x.run(), m.run()); look(); break;
                case 5: joins(); break;
                case 6: text(aRhyme()); same("rhyme", x.rhyme(), m.rhyme()); rhymes(); break;
                case 7: case 8: tape(); break;
                case 9: times(); break;
                case 10: judges(); break;
                default: rest(); break;
            }
        }
    }

    private void text(String text) {
        if (m.about(5) > 0 && !oneIn(20)) {
            same("end(0)", x.end(0), m.end(0));
        }
        int start = m.about(5);
        byte[] bytes = text.getBytes(StandardCharsets.ISO_8859_1);
        for (int i = 0; i < bytes.length; i += 20) {
            int a = Check.four(bytes, i);
            int b = Check.four(bytes, i + 4);
            int c = Check.four(bytes, i + 8);
            int d = Check.four(bytes, i + 12);
            int e = Check.four(bytes, i + 16);
            same("feed", x.feed(a, b, c, d, e), m.feed(a, b, c, d, e));
        }
        int n = oneIn(30) ? near(1500) : oneIn(8) ? start + below(bytes.length + 1) : start + bytes.length;
        same("end " + n, x.end(n), m.end(n));
    }

    private String blank() {
        return oneIn(4) ? "" : oneIn(5) ? "\n" : " ";
    }

    private String signs() {
        StringBuilder all = new StringBuilder();
        int beats = 1 + (oneIn(8) ? below(8) : below(3));
        for (int beat = 0; beat < beats; beat++) {
            String[] usual = {"-l-r", "-r-l", "-b--", "-l--", "----", "-b-r", "--l-", "r--l", "b---"};
            all.append(usual[below(oneIn(4) ? usual.length : 6)]);
        }
        return all.toString();
    }

    private String aBook() {
        StringBuilder all = new StringBuilder();
        int count = oneIn(6) ? below(14) : below(6);
        for (int i = 0; i < count; i++) {
            String feet = signs();
            int beats = feet.length() / 4;
            String name = NAMES[oneIn(60) ? below(NAMES.length) : i];
            all.append("trick ").append(name).append(" worth ").append(oneIn(3) ? below(1000) : below(12)).append(blank()).append(":");
            all.append(blank()).append("feet").append(blank()).append('"').append(feet).append('"');
            List<Integer> free = new ArrayList<>();
            for (int beat = 0; beat < beats; beat++) {
                free.add(beat);
            }
            if (oneIn(3)) {
                int beat = below(beats);
                all.append(blank()).append(new String[] {"cross ", "off a ", "off b"}[below(3)]).append(beat);
                if (oneIn(3)) {
                    all.append(" to ").append(beat + below(oneIn(6) ? 3 : beats - beat));
                }
            }
            if (oneIn(8)) {
                all.append(" cross ").append(below(beats)).append(" ");
            }
            all.append(oneIn(4) ? " turn " + (1 + below(3)) : "").append(oneIn(4) ? " from " + "lrb".charAt(below(3)) : "");
            all.append(oneIn(5) ? " facing " + below(4) : "").append(oneIn(5) ? " alone" : "").append(blank()).append(";").append(blank());
        }
        return spoil(all);
    }

    private String aRoutine() {
        int beats = oneIn(10) ? 1 + below(200) : 1 + below(25);
        StringBuilder all = new StringBuilder("beats " + beats + blank() + ";");
        int count = oneIn(10) ? below(62) : below(25);
        int[] at = new int[count];
        for (int i = 0; i < count; i++) {
            at[i] = below(beats);
        }
        Arrays.sort(at);
        for (int i = 0; i < count; i++) {
            all.append("at ").append(at[i]).append(" ").append(oneIn(6) ? below(6) : 2 + below(3)).append(" ");
            String side = oneIn(2) ? "left" : "right";
            int kind = below(10);
            if (kind < 3) {
                all.append("in ").append(side);
            } else if (kind < 4) {
                all.append("out ").append(side);
            } else if (kind < 5 || m.tricks() == 0) {
                all.append("takes ").append(side);
            } else {
                String name = NAMES[below(oneIn(40) ? NAMES.length : m.tricks())];
                all.append("does ").append(name).append(oneIn(3) ? " mirrored" : "");
            }
            all.append(blank()).append(";").append(blank());
        }
        return spoil(all);
    }

    private String spoil(StringBuilder text) {
        if (oneIn(4) && text.length() > 0) {
            String signs = "abclrt019 \n:;\"-?Z\u00e9";
            int place = below(text.length());
            char sign = signs.charAt(below(signs.length()));
            switch (below(4)) {
                case 0: text.setCharAt(place, sign); break;
                case 1: text.insert(place, sign); break;
                case 2: text.deleteCharAt(place); break;
                default: text.setLength(place); break;
            }
        }
        return text.length() > 1400 ? text.substring(0, 1400) : text.toString();
    }

    private String aRhyme() {
        StringBuilder all = new StringBuilder();
        int length = oneIn(10) ? 280 + below(40) : below(60);
        for (int i = 0; i < length; i++) {
            all.append("aeiouybcdfgst   .Z9\u00e9".charAt(below(19)));
        }
        return all.toString();
    }

    private void faults() {
        same("fault 0", x.fault(0), m.fault(0));
        same("fault 1", x.fault(1), m.fault(1));
    }

    private void tricks() {
        for (int i = 0; i < 12; i++) {
            int t = near(m.tricks());
            int what = near(oneIn(2) ? 7 : 53);
            boolean mirrored = oneIn(2);
            same("trick " + t + " " + what, x.trick(t, mirrored, what), m.trick(t, mirrored, what));
            same("sound " + t, x.sound(t), m.sound(t));
        }
    }

    private void look() {
        for (int i = -1; i < 6; i++) {
            int what = i;
            same("ran " + what, x.ran(what), m.ran(what));
        }
        for (int i = 0; i < 20; i++) {
            int k = near(Math.max(1, oneIn(2) ? m.ran(1) : m.ran(2)));
            int what = near(5);
            same("miss " + k + " " + what, x.miss(k, what), m.miss(k, what));
            same("done " + k + " " + what, x.done(k, what), m.done(k, what));
            int beat = near(Math.max(1, m.ran(0)));
            int person = oneIn(3) ? near(6) : 2 + below(3);
            int part = near(4);
            same("mode " + beat, x.mode(beat), m.mode(beat));
            same("person " + person + " " + beat + " " + part, x.person(person, beat, part), m.person(person, beat, part));
            int tick = near(4 * Math.max(1, m.ran(0)));
            same("feet " + person + " " + tick, x.feet(person, tick), m.feet(person, tick));
        }
    }

    private void joins() {
        if (m.tricks() > 5) {
            return;
        }
        for (int i = 0; i < 4; i++) {
            int n = oneIn(3) ? near(200) : below(12);
            int foot = oneIn(8) ? near(4) : below(4);
            int faces = oneIn(8) ? near(4) : below(4);
            String asked = n + " " + foot + " " + faces;
            same("best " + asked, x.best(n, foot, faces), m.best(n, foot, faces));
            for (int k = 0; k < 3; k++) {
                int at = near(5);
                int what = oneIn(10) ? near(2) : below(2);
                same("joined " + asked + " " + at + " " + what, x.joined(n, foot, faces, at, what), m.joined(n, foot, faces, at, what));
            }
        }
    }

    private void rhymes() {
        for (int i = 0; i < 5; i++) {
            int k = near(30);
            same("word " + k, x.word(k), m.word(k));
            int n = near(101);
            same("stays " + n, x.stays(n), m.stays(n));
        }
    }

    private void tape() {
        StringBuilder signs = new StringBuilder();
        int length = oneIn(12) ? 190 + below(20) : below(30);
        for (int i = 0; i < length; i++) {
            signs.append(oneIn(400) ? 'x' : "-lrb?--".charAt(below(7)));
        }
        text(signs.toString());
        int judge = oneIn(15) ? near(3) : below(3);
        int person = oneIn(15) ? near(6) : 2 + below(2);
        int beat = oneIn(10) ? near(200) : oneIn(10) ? 195 + below(5) : below(6);
        same("tape " + judge + " " + person + " " + beat, x.tape(judge, person, beat), m.tape(judge, person, beat));
    }

    private void times() {
        int by = oneIn(3) ? near(1001) : below(4);
        same("later " + by, x.later(by), m.later(by));
        int number = near(Math.max(1, m.about(2)));
        same("untell " + number, x.untell(number), m.untell(number));
    }

    private void judges() {
        for (int i = 0; i < 8; i++) {
            int person = oneIn(10) ? near(6) : 2 + below(2);
            int tick = oneIn(6) ? near(800) : below(60);
            int k = oneIn(2) ? m.about(3) : near(Math.max(1, m.about(3)));
            same("seen " + person + " " + tick + " " + k, x.seen(person, tick, k), m.seen(person, tick, k));
            int foot = oneIn(10) ? near(3) : 1 + below(2);
            int last = oneIn(6) ? near(800) : Math.min(tick, 700) + below(60);
            boolean most = oneIn(2);
            same("steps " + person + " " + foot + " " + tick + " " + last + " " + most + " " + k,
                x.steps(person, foot, tick, last, most, k), m.steps(person, foot, tick, last, most, k));
            int beat = oneIn(10) ? near(200) : below(12);
            int t = near(Math.max(1, m.tricks()));
            same("told " + person + " " + beat + " " + t + " " + most + " " + k,
                x.told(person, beat, t, most, k), m.told(person, beat, t, most, k));
            same("slip " + person + " " + most + " " + k, x.slip(person, most, k), m.slip(person, most, k));
        }
    }

    private void rest() {
        int what = near(8);
        same("about " + what, x.about(what), m.about(what));
        int stop = oneIn(4) ? near(21) : below(4);
        int penalty = near(100);
        same("rules " + stop + " " + penalty, x.rules(stop, penalty), m.rules(stop, penalty));
        int n = near(1400);
        same("end " + n, x.end(n), m.end(n));
        int f = near(2);
        same("fault " + f, x.fault(f), m.fault(f));
    }
}

import java.util.ArrayList;
import java.util.Arrays;
import java.util.HashMap;
import java.util.HashSet;
import java.util.List;
import java.util.Map;
import java.util.Set;
import java.util.TreeMap;
import java.util.regex.Matcher;
import java.util.regex.Pattern;

/** The document once more, written plainly and another way, to hold the class against. */
final class Model {
    private static final Set<String> WORDS = new HashSet<>(Arrays.asList(("trick worth feet cross to off turn from facing alone a b l r "
        + "beats at in out does mirrored takes left right").split(" ")));
    private static final Pattern TOKEN = Pattern.compile(
        "(?<word>[a-z]{1,8}(?![a-z]))|(?<n>(?<![0-9])[0-9]{1,3}(?![0-9a-z]))|(?<feet>\"([-lrb]{4}){1,8}\")|(?<sign>[:;])");

    static final class Fault extends Exception {
        private static final long serialVersionUID = 1;
        final int law;
        final int place;

        Fault(int law, int place) {
            this.law = law;
            this.place = place;
        }
    }

    record Token(String kind, String text, int place) { }

    static final class Trick {
        String name;
        int worth;
        String feet;
        int turn;
        String from = "";
        int facing = -1;
        boolean alone;
        Map<Integer, Integer> modes = new HashMap<>();

        int beats() {
            return feet.length() / 4;
        }

        Trick mirror() {
            Trick m = new Trick();
            m.name = name;
            m.worth = worth;
            m.feet = swap(feet);
            m.turn = turn == 0 ? 0 : 4 - turn;
            m.from = swap(from);
            m.facing = facing;
            m.alone = alone;
            m.modes = modes;
            return m;
        }

        static String swap(String signs) {
            return signs.replace('l', 'x').replace('r', 'l').replace('x', 'r');
        }

        int mode(int beat) {
            return modes.getOrDefault(beat, 0);
        }

        int down(int tick) {
            return "-lrb".indexOf(feet.charAt(tick));
        }

        int leaves() {
            String trodden = feet.replace("-", "");
            return trodden.isEmpty() ? 0 : "-lrb".indexOf(trodden.charAt(trodden.length() - 1));
        }

        int wants() {
            return from.isEmpty() ? 0 : "-lrb".indexOf(from);
        }

        boolean begins(int foot, int faces) {
            return (from.isEmpty() || wants() == foot) && (facing < 0 || facing == faces);
        }

        int clash() {
            for (int tick = 0; tick < feet.length(); tick++) {
                if (down(tick) != 0 && ropes(mode(tick / 4)).indexOf((char) ('0' + tick % 4)) >= 0) {
                    return tick;
                }
            }
            return -1;
        }
    }

    /** The TICKS at which a rope passes. */
    static String ropes(int mode) {
        return new String[] {"02", "0", "2", "0", ""}[mode];
    }

    record Line(int beat, int person, String act, String with, boolean mirrored) { }

    static final class Person {
        String state = "out";
        int foot;
        int faces;
        Trick trick;
        int number = -1;
        boolean mirrored;
        int began;
    }

    record Tape(int judge, int person, int beat, String signs, int told, int[] untold) { }

    private String tape = "";
    private List<Trick> book = new ArrayList<>();
    private int beats;
    private List<Line> lines;
    private int fault;
    private int place = -1;
    private int stop = 4;
    private int penalty = 10;
    private String rhyme = "";
    private int time;
    private final List<Tape> tapes = new ArrayList<>();

    private boolean hasRun;
    private int still;
    private int gained;
    private final List<int[]> misses = new ArrayList<>();
    private final List<int[]> dones = new ArrayList<>();
    private final List<Integer> modes = new ArrayList<>();
    private final Map<Integer, int[]> persons = new TreeMap<>();
    private final Map<Integer, Integer> steps = new HashMap<>();

    // ---- texts

    int feed(int... five) {
        if (tape.length() + 20 > 1400) {
            return -1;
        }
        StringBuilder more = new StringBuilder(tape);
        for (int four : five) {
            for (int shift = 24; shift >= 0; shift -= 8) {
                more.append((char) (four >>> shift & 255));
            }
        }
        tape = more.toString();
        return tape.length();
    }

    int end(int n) {
        if (n < 0 || n > tape.length()) {
            return -1;
        }
        tape = tape.substring(0, n);
        return n;
    }

    private static List<Token> tokens(String text) {
        List<Token> all = new ArrayList<>();
        int at = 0;
        while (true) {
            while (at < text.length() && (text.charAt(at) == ' ' || text.charAt(at) == '\n')) {
                at++;
            }
            if (at == text.length()) {
                all.add(new Token("end", "", at));
                return all;
            }
            Matcher m = TOKEN.matcher(text);
            m.useTransparentBounds(true);
            m.region(at, text.length());
            if (!m.lookingAt()) {
                all.add(new Token("bad", "", at));
                return all;
            }
            String word = m.group();
            String kind = m.group("word") != null ? WORDS.contains(word) ? word : "name"
                : m.group("n") != null ? "n" : m.group("feet") != null ? "signs" : word;
            all.add(new Token(kind, word, at));
            at = m.end();
        }
    }

    private List<Token> reading;
    private int next;

    private boolean at(String kind) {
        return reading.get(next).kind.equals(kind);
    }

    private Token need(String... kinds) throws Fault {
        Token t = reading.get(next);
        if (t.kind.equals("bad")) {
            throw new Fault(1, t.place);
        }
        if (!Arrays.asList(kinds).contains(t.kind)) {
            throw new Fault(2, t.place);
        }
        next++;
        return t;
    }

    private int number(int least, int most) throws Fault {
        Token t = need("n");
        int n = Integer.parseInt(t.text);
        if (n < least || n > most) {
            throw new Fault(4, t.place);
        }
        return n;
    }

    int book() {
        reading = tokens(tape);
        tape = "";
        next = 0;
        fault = 0;
        place = -1;
        List<Trick> read = new ArrayList<>();
        try {
            while (!at("end")) {
                read.add(readTrick(read));
            }
        } catch (Fault f) {
            fault = f.law;
            place = f.place;
            return -1;
        }
        book = read;
        lines = null;
        forget();
        return book.size();
    }

    private Trick readTrick(List<Trick> ahead) throws Fault {
        Token first = need("trick");
        if (ahead.size() == 12) {
            throw new Fault(2, first.place);
        }
        Trick t = new Trick();
        Token name = need("name");
        t.name = name.text;
        for (Trick other : ahead) {
            if (other.name.equals(t.name)) {
                throw new Fault(3, name.place);
            }
        }
        need("worth");
        t.worth = number(0, 999);
        need(":");
        need("feet");
        t.feet = need("signs").text.replace("\"", "");
        Set<String> once = new HashSet<>();
        while (true) {
            Token part = need("cross", "off", "turn", "from", "facing", "alone", ";");
            if (part.kind.equals(";")) {
                return t;
            }
            if (part.kind.equals("cross")) {
                readModes(t, 1);
            } else if (part.kind.equals("off")) {
                readModes(t, need("a", "b").text.equals("a") ? 2 : 3);
            } else if (!once.add(part.kind)) {
                throw new Fault(2, part.place);
            } else if (part.kind.equals("turn")) {
                t.turn = number(1, 3);
            } else if (part.kind.equals("from")) {
                t.from = need("l", "r", "b").text;
            } else if (part.kind.equals("facing")) {
                t.facing = number(0, 3);
            } else {
                t.alone = true;
            }
        }
    }

    private void readModes(Trick t, int mode) throws Fault {
        int first = number(0, t.beats() - 1);
        if (t.modes.put(first, mode) != null) {
            throw new Fault(5, reading.get(next - 1).place);
        }
        if (at("to")) {
            need("to");
            int last = number(first, t.beats() - 1);
            for (int beat = first + 1; beat <= last; beat++) {
                if (t.modes.put(beat, mode) != null) {
                    throw new Fault(5, reading.get(next - 1).place);
                }
            }
        }
    }

    int routine() {
        reading = tokens(tape);
        tape = "";
        next = 0;
        fault = 0;
        place = -1;
        List<Line> read = new ArrayList<>();
        int total;
        try {
            need("beats");
            total = number(1, 200);
            need(";");
            while (!at("end")) {
                Token first = need("at");
                if (read.size() == 60) {
                    throw new Fault(2, first.place);
                }
                read.add(readLine(read.isEmpty() ? 0 : read.get(read.size() - 1).beat, total));
            }
        } catch (Fault f) {
            fault = f.law;
            place = f.place;
            return -1;
        }
        beats = total;
        lines = read;
        forget();
        return lines.size();
    }

    private Line readLine(int least, int total) throws Fault {
        int beat = number(least, total - 1);
        int person = number(0, 5);
        String act = need("in", "out", "does", "takes").text;
        String with;
        boolean mirrored = false;
        if (act.equals("does")) {
            Token name = need("name");
            with = name.text;
            if (book.stream().noneMatch(t -> t.name.equals(name.text))) {
                throw new Fault(5, name.place);
            }
            if (at("mirrored")) {
                need("mirrored");
                mirrored = true;
            }
        } else {
            with = need("left", "right").text;
        }
        need(";");
        return new Line(beat, person, act, with, mirrored);
    }

    int fault(int what) {
        return what == 0 ? fault : what == 1 ? place : -1;
    }

    // ---- tricks

    int trick(int trick, boolean mirrored, int what) {
        if (trick < 0 || trick >= book.size()) {
            return -1;
        }
        Trick t = mirrored ? book.get(trick).mirror() : book.get(trick);
        int[] first = {t.beats(), t.worth, t.turn, t.wants(), t.facing, t.alone ? 1 : 0, t.leaves()};
        if (what >= 0 && what < 7) {
            return first[what];
        }
        if (what >= 10 && what < 18 && what - 10 < t.beats()) {
            return t.mode(what - 10);
        }
        return what >= 20 && what < 52 && what - 20 < t.feet.length() ? t.down(what - 20) : -1;
    }

    int sound(int trick) {
        return trick < 0 || trick >= book.size() ? -2 : book.get(trick).clash();
    }

    // ---- runs

    boolean rules(int newStop, int newPenalty) {
        if (newStop < 0 || newStop > 20 || newPenalty < 0 || newPenalty > 99) {
            return false;
        }
        stop = newStop;
        penalty = newPenalty;
        return true;
    }

    private void forget() {
        hasRun = false;
        still = 0;
        gained = 0;
        misses.clear();
        dones.clear();
        modes.clear();
        persons.clear();
        steps.clear();
    }

    int run() {
        if (lines == null) {
            return -100000;
        }
        forget();
        hasRun = true;
        Person[] all = new Person[6];
        for (int p = 0; p < 6; p++) {
            all[p] = new Person();
        }
        all[0].state = "holds left";
        all[1].state = "holds right";
        // by end: who takes it, and in how many BEATS it has been going on
        Map<String, int[]> changes = new TreeMap<>();
        int stillUntil = -1;
        int before = 0;
        for (int beat = 0; beat < beats; beat++) {
            if (beat <= stillUntil) {
                modes.add(4);
                still++;
                keep(all, beat, null);
                continue;
            }
            for (Line line : lines) {
                if (line.beat == beat) {
                    int law = follow(all, changes, line, before);
                    if (law > 0) {
                        misses.add(new int[] {beat, law, line.person});
                    }
                }
            }
            int mode = 0;
            int least = -1;
            Set<Integer> wanted = new HashSet<>();
            for (int p = 5; p >= 0; p--) {
                if (all[p].trick != null) {
                    mode = all[p].trick.mode(beat - all[p].began);
                    least = p;
                    wanted.add(mode);
                }
            }
            modes.add(mode);
            before = mode;
            String[] trod = new String[6];
            for (int p = 0; p < 6; p++) {
                trod[p] = "";
                if (all[p].state.equals("in")) {
                    int offset = 4 * (beat - all[p].began);
                    trod[p] = all[p].trick != null ? all[p].trick.feet.substring(offset, offset + 4)
                        : all[p].foot == 1 ? "-r-l" : "-l-r";
                }
            }
            int had = misses.size();
            if (wanted.size() > 1) {
                misses.add(new int[] {beat, 7, least});
            } else if (mode != 0 && !changes.isEmpty()) {
                misses.add(new int[] {beat, 8, changes.values().stream().mapToInt(c -> c[0]).min().getAsInt()});
            } else {
                for (int p = 0; p < 6; p++) {
                    boolean hit = false;
                    for (char tick : ropes(mode).toCharArray()) {
                        hit |= !trod[p].isEmpty() && trod[p].charAt(tick - '0') != '-';
                    }
                    if (hit) {
                        misses.add(new int[] {beat, 9, p});
                    }
                }
            }
            boolean broken = misses.size() > had;
            for (int p = 0; p < 6; p++) {
                Person one = all[p];
                String down = trod[p].replace("-", "");
                if (!down.isEmpty()) {
                    one.foot = "-lrb".indexOf(down.charAt(down.length() - 1));
                }
                if (broken) {
                    one.foot = 0;
                    one.trick = null;
                } else if (one.trick != null && beat == one.began + one.trick.beats() - 1) {
                    one.faces = (one.faces + one.trick.turn) % 4;
                    int number = one.number;
                    long earlier = dones.stream().filter(d -> d[1] == number).count();
                    int gain = earlier == 0 ? one.trick.worth : earlier == 1 ? one.trick.worth / 2 : 0;
                    dones.add(new int[] {one.began, number, p, one.mirrored ? 1 : 0, gain});
                    gained += gain;
                    one.trick = null;
                }
            }
            if (broken) {
                stillUntil = beat + stop;
            }
            for (String end : new ArrayList<>(changes.keySet())) {
                int[] change = changes.get(end);
                if (++change[1] == 2) {
                    for (Person one : all) {
                        if (one.state.equals("holds " + end)) {
                            one.state = "out";
                        }
                    }
                    all[change[0]].state = "holds " + end;
                    changes.remove(end);
                }
            }
            keep(all, beat, trod);
        }
        return gained - penalty * misses.size();
    }

    private int follow(Person[] all, Map<String, int[]> changes, Line line, int before) {
        Person one = all[line.person];
        List<Person> inside = new ArrayList<>();
        for (Person p : all) {
            if (p.state.equals("in")) {
                inside.add(p);
            }
        }
        boolean free = one.state.equals("in") && one.trick == null;
        boolean left = line.with.equals("left");
        switch (line.act) {
            case "in":
                if (!one.state.equals("out")) {
                    return 1;
                } else if (inside.size() == 3) {
                    return 2;
                } else if (before == 1 || left && before == 2 || !left && before == 3) {
                    return 3;
                } else if (inside.stream().anyMatch(p -> p.trick != null && p.trick.alone)) {
                    return 6;
                }
                one.state = "in";
                one.foot = left ? 1 : 2;
                one.faces = 0;
                return 0;
            case "out":
                if (!free) {
                    return 1;
                } else if (left && one.foot == 2 || !left && one.foot == 1) {
                    return 4;
                }
                one.state = "out";
                return 0;
            case "takes":
                if (!free && !one.state.equals("out") || changes.containsKey(line.with)) {
                    return 1;
                }
                one.state = "takes " + line.with;
                changes.put(line.with, new int[] {line.person, 0});
                return 0;
            default:
                break;
        }
        int number = 0;
        while (!book.get(number).name.equals(line.with)) {
            number++;
        }
        Trick t = line.mirrored ? book.get(number).mirror() : book.get(number);
        if (!free) {
            return 1;
        } else if (!t.begins(one.foot, one.faces)) {
            return 5;
        } else if (t.alone && inside.size() > 1) {
            return 6;
        }
        one.trick = t;
        one.number = number;
        one.mirrored = line.mirrored;
        one.began = line.beat;
        return 0;
    }

    private void keep(Person[] all, int beat, String[] trod) {
        for (int p = 0; p < 6; p++) {
            Person one = all[p];
            int state = Arrays.asList("out", "in", "holds left", "holds right", "takes left", "takes right").indexOf(one.state);
            boolean in = state == 1;
            persons.put(beat * 6 + p, new int[] {state, in ? one.foot : -1, in ? one.faces : -1, in && one.trick != null ? one.number : -1});
            for (int tick = 0; tick < 4; tick++) {
                int down = !in ? -1 : trod == null ? 0 : "-lrb".indexOf(trod[p].charAt(tick));
                steps.put((4 * beat + tick) * 6 + p, down);
            }
        }
    }

    int ran(int what) {
        if (!hasRun || what < 0 || what > 4) {
            return -1;
        }
        return new int[] {beats, misses.size(), dones.size(), gained, still}[what];
    }

    int miss(int k, int what) {
        return k < 0 || k >= Math.min(200, misses.size()) || what < 0 || what > 2 ? -1 : misses.get(k)[what];
    }

    int done(int k, int what) {
        return k < 0 || k >= Math.min(100, dones.size()) || what < 0 || what > 4 ? -1 : dones.get(k)[what];
    }

    int mode(int beat) {
        return beat < 0 || beat >= modes.size() ? -1 : modes.get(beat);
    }

    int person(int person, int beat, int what) {
        if (!hasRun || person < 0 || person > 5 || beat < 0 || beat >= beats || what < 0 || what > 3) {
            return -1;
        }
        return persons.get(beat * 6 + person)[what];
    }

    int feet(int person, int tick) {
        if (!hasRun || person < 0 || person > 5 || tick < 0 || tick >= 4 * beats) {
            return -1;
        }
        return steps.get(tick * 6 + person);
    }

    // ---- joined tricks: every row is tried

    int tricks() {
        return book.size();
    }

    private List<Integer> bestRow;
    private int[] bestRank;

    private List<Integer> bestRow(int n, int foot, int faces) {
        bestRow = null;
        tryRows(new ArrayList<>(), n, foot, faces, 0);
        return bestRow;
    }

    private void tryRows(List<Integer> row, int n, int foot, int faces, int set) {
        int worth = 0;
        int length = 0;
        for (int way : row) {
            worth += book.get(way / 2).worth;
            length += book.get(way / 2).beats();
        }
        if (length > n) {
            return;
        }
        int[] rank = new int[3 + 12];
        rank[0] = -worth;
        rank[1] = length;
        rank[2] = set;
        for (int i = 0; i < row.size(); i++) {
            rank[3 + i] = row.get(i);
        }
        if (bestRow == null || Arrays.compare(rank, bestRank) < 0) {
            bestRow = new ArrayList<>(row);
            bestRank = rank;
        }
        for (int way = 0; way < 2 * book.size(); way++) {
            Trick t = way % 2 == 0 ? book.get(way / 2) : book.get(way / 2).mirror();
            if ((set >> way / 2 & 1) == 0 && t.clash() < 0 && t.begins(foot, faces)) {
                row.add(way);
                tryRows(row, n, t.leaves() == 0 ? foot : t.leaves(), (faces + t.turn) % 4, set | 1 << way / 2);
                row.remove(row.size() - 1);
            }
        }
    }

    private static boolean joins(int n, int foot, int faces) {
        return n >= 0 && n <= 200 && foot >= 0 && foot <= 3 && faces >= 0 && faces <= 3;
    }

    int best(int n, int foot, int faces) {
        return joins(n, foot, faces) ? bestRow(n, foot, faces).stream().mapToInt(way -> book.get(way / 2).worth).sum() : -1;
    }

    int joined(int n, int foot, int faces, int k, int what) {
        if (!joins(n, foot, faces) || k < 0 || what < 0 || what > 1) {
            return -1;
        }
        List<Integer> row = bestRow(n, foot, faces);
        return k >= row.size() ? -1 : what == 0 ? row.get(k) / 2 : row.get(k) % 2;
    }

    // ---- rhymes

    int rhyme() {
        if (tape.length() > 300) {
            return -1;
        }
        rhyme = tape;
        tape = "";
        return starts().get(starts().size() - 1);
    }

    /** The SYLLABLE with which each word begins, and behind them how many there are. */
    private List<Integer> starts() {
        List<Integer> all = new ArrayList<>();
        int sum = 0;
        all.add(0);
        for (String word : rhyme.split("[^a-z]+")) {
            if (!word.isEmpty()) {
                sum += Math.max(1, (int) Pattern.compile("[aeiouy]+").matcher(word).results().count());
                all.add(sum);
            }
        }
        return all;
    }

    int word(int k) {
        return k < 0 || k >= starts().size() - 1 ? -1 : starts().get(k);
    }

    int stays(int n) {
        int syllables = starts().get(starts().size() - 1);
        if (syllables == 0 || n < 1 || n > 100) {
            return -1;
        }
        List<Integer> ring = new ArrayList<>();
        for (int i = 0; i < n; i++) {
            ring.add(i);
        }
        int at = 0;
        while (ring.size() > 1) {
            at = (at + syllables - 1) % ring.size();
            ring.remove(at);
        }
        return ring.get(0);
    }

    // ---- tapes

    int tape(int judge, int person, int beat) {
        if (judge < 0 || judge > 2 || person < 0 || person > 5 || beat < 0 || beat > 199 || tape.length() > 200 || tapes.size() == 30) {
            return -2;
        }
        String signs = tape;
        tape = "";
        if (!signs.matches("[-lrb?]*")) {
            return -1;
        }
        tapes.add(new Tape(judge, person, beat, signs, time, new int[] {Integer.MAX_VALUE, 0}));
        return tapes.size() - 1;
    }

    boolean untell(int number) {
        if (number < 0 || number >= tapes.size() || tapes.get(number).untold[1] == 1) {
            return false;
        }
        tapes.get(number).untold[0] = time;
        tapes.get(number).untold[1] = 1;
        return true;
    }

    int later(int by) {
        if (by < 0 || by > 1000 || time + by > 100000) {
            return -1;
        }
        time += by;
        return time;
    }

    int seen(int person, int tick, int k) {
        if (person < 0 || person > 5 || tick < 0 || tick > 799) {
            return -1;
        }
        Set<Character> all = new HashSet<>();
        for (int judge = 0; judge < 3; judge++) {
            char saw = '?';
            for (Tape t : tapes) {
                boolean counts = t.judge == judge && t.person == person && t.told <= k && !(t.untold[1] == 1 && t.untold[0] <= k);
                int at = tick - 4 * t.beat;
                if (counts && at >= 0 && at < t.signs.length() && t.signs.charAt(at) != '?') {
                    saw = t.signs.charAt(at);
                }
            }
            if (saw != '?') {
                all.add(saw);
            }
        }
        return all.size() == 1 ? "-lrb".indexOf(all.iterator().next()) : 4;
    }

    int steps(int person, int foot, int x, int y, boolean most, int k) {
        if (person < 0 || person > 5 || foot < 1 || foot > 2 || x < 0 || y > 799 || x > y) {
            return -1;
        }
        int sum = 0;
        for (int tick = x; tick <= y; tick++) {
            int saw = seen(person, tick, k);
            sum += saw == 4 ? most ? 1 : 0 : (saw & foot) != 0 ? 1 : 0;
        }
        return sum;
    }

    int told(int person, int beat, int trick, boolean mirrored, int k) {
        if (person < 0 || person > 5 || beat < 0 || beat > 199 || trick < 0 || trick >= book.size()) {
            return -1;
        }
        Trick t = mirrored ? book.get(trick).mirror() : book.get(trick);
        int so = 0;
        for (int i = 0; i < t.feet.length(); i++) {
            int tick = 4 * beat + i;
            int saw = tick > 799 ? 4 : seen(person, tick, k);
            if (saw != 4 && saw != t.down(i)) {
                return 0;
            }
            so += saw == t.down(i) ? 1 : 0;
        }
        return so == t.feet.length() ? 2 : 1;
    }

    int slip(int person, boolean sure, int k) {
        if (person < 0 || person > 5) {
            return -1;
        }
        for (int beat = 0; beat < modes.size(); beat++) {
            for (char c : ropes(modes.get(beat)).toCharArray()) {
                int tick = 4 * beat + c - '0';
                int saw = seen(person, tick, k);
                if (saw >= 1 && saw <= 3 || saw == 4 && !sure) {
                    return tick;
                }
            }
        }
        return -1;
    }

    int about(int what) {
        if (what < 0 || what > 7) {
            return -1;
        }
        return new int[] {book.size(), lines == null ? 0 : lines.size(), tapes.size(), time, starts().size() - 1, tape.length(), stop, penalty}[what];
    }
}

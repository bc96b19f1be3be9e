/** Runs ROUTINES of one BOOK and asks what was run. */
final class RunCheck {
    private final Check check;
    private final String book;

    RunCheck(Check check, String book) {
        this.check = check;
        this.book = book;
    }

    /** An object with that ROUTINE, not run yet. */
    TwoRopes start(String lines) {
        TwoRopes x = new TwoRopes();
        if (Check.book(x, book) < 0 || Check.routine(x, lines) < 0) {
            check.due("FAULT of " + lines, x.fault(0) * 10000 + x.fault(1), 0);
        }
        return x;
    }

    /** Runs it; the MISSES are as beat, law, person one behind the other. */
    TwoRopes misses(String lines, int... want) {
        TwoRopes x = start(lines);
        x.run();
        sameMisses(x, lines, want);
        return x;
    }

    void sameMisses(TwoRopes x, String lines, int... want) {
        check.due(lines + " misses", x.ran(1), want.length / 3);
        for (int i = 0; i < want.length; i++) {
            check.due(lines + " miss(" + i / 3 + ", " + i % 3 + ")", x.miss(i / 3, i % 3), want[i]);
        }
    }

    /** Asks for one part of a PERSON behind BEATS that follow each other. */
    void person(TwoRopes x, int person, int what, int firstBeat, int... want) {
        for (int i = 0; i < want.length; i++) {
            int beat = firstBeat + i;
            check.due("person(" + person + ", " + beat + ", " + what + ")", x.person(person, beat, what), want[i]);
        }
    }

    void where(TwoRopes x, int person, int firstBeat, int... want) {
        person(x, person, 0, firstBeat, want);
    }

    void foot(TwoRopes x, int person, int firstBeat, int... want) {
        person(x, person, 1, firstBeat, want);
    }

    void faces(TwoRopes x, int person, int firstBeat, int... want) {
        person(x, person, 2, firstBeat, want);
    }

    void feet(TwoRopes x, int person, int firstTick, int... want) {
        for (int i = 0; i < want.length; i++) {
            int tick = firstTick + i;
            check.due("feet(" + person + ", " + tick + ")", x.feet(person, tick), want[i]);
        }
    }

    void modes(TwoRopes x, int... want) {
        for (int beat = 0; beat < want.length; beat++) {
            check.due("mode(" + beat + ")", x.mode(beat), want[beat]);
        }
    }
}

/** Asks an object for all that it holds, so that two objects can be compared; each way takes some 300 calls. */
final class Probe {
    private final OperaMachines asked;
    private final StringBuilder answers = new StringBuilder();

    private Probe(OperaMachines asked) {
        this.asked = asked;
    }

    /** All that an object answers, what its setters tell, and what may be written yet. */
    static String everything(OperaMachines x) {
        Probe probe = new Probe(x);
        probe.places();
        probe.work();
        probe.settings();
        return probe.answers.toString();
    }

    /** Rest and limit, told by clashes and overtime with every length of a bar, so that a change by 1 shows. */
    static String rules(OperaMachines x) {
        Probe probe = new Probe(x);
        probe.sweep();
        return probe.answers.toString();
    }

    private void tell(Tries.Call call) {
        try {
            answers.append(call.answer());
        } catch (RuntimeException e) {
            answers.append(Tries.told(e));
        }
        answers.append(" ");
    }

    private void places() {
        int end = asked.end();
        tell(asked::bar);
        tell(asked::end);
        for (int m = -1; m <= 6; m++) {
            int machine = m;
            for (int tick : new int[] {-1, 0, 1, 2, 5, end / 3, end / 2, end - 1, end, end + 1}) {
                tell(() -> asked.place(machine, tick));
            }
            for (int b = 0; b <= 9; b++) {
                int bar = b;
                tell(() -> asked.placeAtBar(machine, bar));
            }
        }
        tell(asked::meeting);
        tell(asked::meeters);
    }

    private void work() {
        for (int c = -1; c <= 24; c++) {
            int cue = c;
            tell(() -> asked.worker(cue));
            tell(() -> asked.takes(cue));
        }
        for (int w = 0; w < 6; w++) {
            int worker = w;
            tell(() -> asked.clashes(worker));
            tell(() -> asked.overtime(worker));
        }
        tell(asked::isFine);
        tell(asked::fastest);
    }

    /** What may be written yet, and the settings as their setters tell them. */
    private void settings() {
        tell(() -> asked.setTempo(100));
        for (int w = 0; w < 6; w++) {
            int worker = w;
            tell(() -> asked.strike(worker, false));
            tell(() -> asked.substitute(worker, -1));
        }
        for (int c = 0; c < 24; c++) {
            int cue = c;
            tell(() -> asked.worker(cue));
        }
        tell(() -> asked.wagon(0, 0, 1, 1));
        tell(() -> asked.cue(0, 0, 0, 0));
        tell(() -> asked.strikeOut(23));
        tell(() -> Tries.setScore(asked, 1, 1));
        tell(asked::end);
    }

    private void sweep() {
        int bars = asked.bar() < 1 ? 0 : asked.end() / asked.bar();
        // Where there is room the sweep brings cues of its own, so that a new object has rules to tell too.
        tell(() -> asked.wagon(2, 0, 1, 1));
        tell(() -> asked.cue(0, 0, 15, 0));
        tell(() -> asked.cue(0, 1, 10, 0));
        tell(() -> asked.cue(0, bars - 1, 50, 1));
        for (int t = 1; t <= 40; t++) {
            int ticks = t;
            tell(() -> Tries.setScore(asked, bars, ticks));
            tell(() -> asked.clashes(0));
            tell(() -> asked.overtime(0));
            tell(() -> asked.overtime(1));
        }
    }
}

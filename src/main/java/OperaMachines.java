import java.util.ArrayList;

/** A planner of stage machines: see README.md for its use. */
public final class OperaMachines {
    private static final int TRACKS = 3;
    private static final int MOST_MACHINES = 6;
    private static final int MOST_CUES = 24;
    private static final int MOST_BARS = 30;
    private static final int MOST_TICKS = 40;
    private static final int WORKERS = 6;
    private static final int NOBODY = -1;
    private static final int NONE = -1;
    private static final int LAST_PLACE = 200;
    private static final int CIRCLE = 360;
    private static final int MOST_WIDTH = 20;
    private static final int MOST_SPEED = 10;
    private static final int SLOWEST = 50;
    private static final int QUICKEST = 200;
    private static final int TEMPO_STEP = 10;
    private static final int AS_WRITTEN = 100;
    private static final int MOST_REST = 100;
    private static final int MOST_LIMIT = 2400;

    private final ArrayList<Machine> machines = new ArrayList<>();
    private final ArrayList<Cue> cues = new ArrayList<>();
    private final ArrayList<Cue> cuesByBar = new ArrayList<>();
    private final boolean[] striking = new boolean[WORKERS];
    private final int[] substitutes = new int[WORKERS];
    private int bars = 16;
    private int writtenTicks = 20;
    private int tempo = AS_WRITTEN;
    private int rest = 5;
    private int limit = 400;

    public OperaMachines() {
        for (int i = 0; i < WORKERS; i++) {
            substitutes[i] = NOBODY;
        }
    }

    // ---- machines, score, cues

    public int wagon(int track, int place, int width, int speed)
            throws IllegalArgumentException, IllegalStateException {
        allow(within(track, 0, TRACKS - 1) && within(place, 0, LAST_PLACE)
                && within(width, 1, MOST_WIDTH) && within(speed, 1, MOST_SPEED));
        needRoomForMachine();
        return add(new Machine(track, place, width, speed));
    }

    public int turntable(int angle, int speed) throws IllegalArgumentException, IllegalStateException {
        allow(within(angle, 0, CIRCLE - 1) && within(speed, 1, MOST_SPEED));
        needRoomForMachine();
        return add(new Machine(NONE, angle, 0, speed));
    }

    public void setScore(int bars, int ticks) throws IllegalArgumentException, IllegalStateException {
        allow(within(bars, 1, MOST_BARS) && within(ticks, 1, MOST_TICKS));
        for (int i = 0; i < cues.size(); i++) {
            Cue cue = cues.get(i);
            if (!cue.struck && cue.bar >= bars) {
                throw new IllegalStateException("a cue has a bar that there would not be");
            }
        }
        this.bars = bars;
        writtenTicks = ticks;
    }

    public int cue(int machine, int bar, int target, int worker)
            throws IndexOutOfBoundsException, IllegalArgumentException, IllegalStateException {
        Machine moved = machineNumbered(machine);
        allow(within(bar, 0, bars - 1) && within(target, 0, moved.lastPlace()) && isWorker(worker));
        if (cues.size() >= MOST_CUES) {
            throw new IllegalStateException("there were 24 cues");
        }
        Cue written = new Cue(moved, bar, target, worker);
        cues.add(written);
        insertByBar(written);
        moved.setCueOfBar(bar, written);
        return cues.size() - 1;
    }

    public int strikeOut(int cue) throws IndexOutOfBoundsException {
        Cue out = cueNumbered(cue);
        out.struck = true;
        out.machine.setCueOfBar(out.bar, highestCue(out.machine, out.bar));
        return out.bar;
    }

    // ---- the night

    public int setTempo(int tempo) throws IllegalArgumentException {
        allow(within(tempo, SLOWEST, QUICKEST));
        int before = this.tempo;
        this.tempo = tempo;
        return before;
    }

    public void setRules(int rest, int limit) throws IllegalArgumentException {
        allow(within(rest, 0, MOST_REST) && within(limit, 0, MOST_LIMIT));
        this.rest = rest;
        this.limit = limit;
    }

    public boolean strike(int worker, boolean strikes) throws IllegalArgumentException {
        allow(isWorker(worker));
        boolean before = striking[worker];
        striking[worker] = strikes;
        return before;
    }

    public int substitute(int worker, int substitute) throws IllegalArgumentException {
        allow(isWorker(worker) && (substitute == NOBODY || isWorker(substitute)));
        int before = substitutes[worker];
        substitutes[worker] = substitute;
        return before;
    }

    // ---- places

    public int bar() {
        return barTicks(tempo);
    }

    public int end() {
        return bars * barTicks(tempo);
    }

    public int place(int machine, int tick) throws IndexOutOfBoundsException, IllegalArgumentException {
        Machine asked = machineNumbered(machine);
        int ticks = barTicks(tempo);
        allow(within(tick, 0, bars * ticks));
        asked.rewind();
        int gone = 0;
        for (int bar = 0; bar < bars && gone < tick; bar++) {
            asked.startBar(bar);
            for (int i = 0; i < ticks && gone < tick; i++) {
                asked.go(1);
                gone++;
            }
        }
        return asked.place;
    }

    public int placeAtBar(int machine, int bar) throws IndexOutOfBoundsException, IllegalArgumentException {
        Machine asked = machineNumbered(machine);
        allow(within(bar, 0, bars));
        int ticks = barTicks(tempo);
        asked.rewind();
        for (int i = 0; i < bar; i++) {
            asked.startBar(i);
            asked.go(ticks);
        }
        return asked.place;
    }

    public int meeting() {
        return firstMeeting(barTicks(tempo));
    }

    public int meeters() {
        // The search stops at the first meeting and leaves the machines where they are then.
        return firstMeeting(barTicks(tempo)) == NONE ? NONE : leastPairMeetingNow();
    }

    // ---- work

    public int worker(int cue) throws IndexOutOfBoundsException {
        return workerTonight(cueNumbered(cue));
    }

    public int takes(int cue) throws IndexOutOfBoundsException {
        Cue asked = cueNumbered(cue);
        planWork(barTicks(tempo));
        return asked.work;
    }

    public int clashes(int worker) throws IllegalArgumentException {
        allow(isWorker(worker));
        int ticks = barTicks(tempo);
        planWork(ticks);
        return plannedClashes(worker, ticks);
    }

    public int overtime(int worker) throws IllegalArgumentException {
        allow(isWorker(worker));
        int ticks = barTicks(tempo);
        planWork(ticks);
        int told = 0;
        int from = limit;
        for (int i = 0; i < cuesByBar.size(); i++) {
            Cue cue = cuesByBar.get(i);
            if (cue.work > 0 && workerTonight(cue) == worker) {
                int begin = cue.bar * ticks;
                int end = begin + cue.work;
                told += Math.max(0, end - Math.max(from, begin));
                // Each tick counts once: the next cue counts only from where this one leaves off.
                from = Math.max(from, end);
            }
        }
        return told;
    }

    public boolean isFine() {
        return isFineWith(tempo);
    }

    public int fastest() {
        for (int tried = QUICKEST; tried >= SLOWEST; tried -= TEMPO_STEP) {
            if (isFineWith(tried)) {
                return tried;
            }
        }
        return NONE;
    }

    // ---- ranges and numbers

    private static boolean within(int value, int least, int most) {
        return value >= least && value <= most;
    }

    private static boolean isWorker(int worker) {
        return within(worker, 0, WORKERS - 1);
    }

    private static void allow(boolean inRange) {
        if (!inRange) {
            throw new IllegalArgumentException("out of range");
        }
    }

    private Machine machineNumbered(int number) {
        if (number < 0 || number >= machines.size()) {
            throw new IndexOutOfBoundsException("no such machine");
        }
        return machines.get(number);
    }

    private Cue cueNumbered(int number) {
        if (number < 0 || number >= cues.size() || cues.get(number).struck) {
            throw new IndexOutOfBoundsException("no such cue");
        }
        return cues.get(number);
    }

    // ---- building and writing

    private void needRoomForMachine() {
        if (machines.size() >= MOST_MACHINES) {
            throw new IllegalStateException("there are 6 machines");
        }
    }

    private int add(Machine machine) {
        machines.add(machine);
        return machines.size() - 1;
    }

    private void insertByBar(Cue written) {
        int at = cuesByBar.size();
        while (at > 0 && cuesByBar.get(at - 1).bar > written.bar) {
            at--;
        }
        cuesByBar.add(at, written);
    }

    private Cue highestCue(Machine machine, int bar) {
        for (int i = cues.size() - 1; i >= 0; i--) {
            Cue cue = cues.get(i);
            if (!cue.struck && cue.machine == machine && cue.bar == bar) {
                return cue;
            }
        }
        return null;
    }

    // ---- the night, run through

    private int barTicks(int atTempo) {
        return atTempo < 1 ? 1 : Math.max(1, writtenTicks * AS_WRITTEN / atTempo);
    }

    private void rewindAll() {
        for (int i = 0; i < machines.size(); i++) {
            machines.get(i).rewind();
        }
    }

    private void startBarForAll(int bar) {
        for (int i = 0; i < machines.size(); i++) {
            machines.get(i).startBar(bar);
        }
    }

    private boolean goAll() {
        boolean moved = false;
        for (int i = 0; i < machines.size(); i++) {
            if (machines.get(i).go(1)) {
                moved = true;
            }
        }
        return moved;
    }

    private int firstMeeting(int ticks) {
        rewindAll();
        if (leastPairMeetingNow() != NONE) {
            return 0;
        }
        for (int bar = 0; bar < bars; bar++) {
            startBarForAll(bar);
            // Once nothing moves, nothing does before the next bar, so its ticks need no look.
            for (int tick = 1; tick <= ticks && goAll(); tick++) {
                if (leastPairMeetingNow() != NONE) {
                    return bar * ticks + tick;
                }
            }
        }
        return NONE;
    }

    private int leastPairMeetingNow() {
        for (int low = 0; low < machines.size(); low++) {
            Machine lower = machines.get(low);
            for (int high = low + 1; high < machines.size(); high++) {
                if (lower.meets(machines.get(high))) {
                    return 10 * low + high;
                }
            }
        }
        return NONE;
    }

    // ---- work, planned

    private int workerTonight(Cue cue) {
        int asked = cue.worker;
        // Whoever is reached after as many steps as there are workers was asked before.
        for (int step = 0; step < WORKERS && isWorker(asked); step++) {
            if (!striking[asked]) {
                return asked;
            }
            asked = substitutes[asked];
        }
        return NOBODY;
    }

    private void planWork(int ticks) {
        for (int i = 0; i < cues.size(); i++) {
            cues.get(i).work = 0;
        }
        rewindAll();
        for (int bar = 0; bar < bars; bar++) {
            startBarForAll(bar);
            for (int i = 0; i < machines.size(); i++) {
                machines.get(i).workThroughBar(ticks);
            }
        }
    }

    private int plannedClashes(int worker, int ticks) {
        int count = 0;
        boolean workedBefore = false;
        int endBefore = 0;
        for (int i = 0; i < cuesByBar.size(); i++) {
            Cue cue = cuesByBar.get(i);
            if (cue.work > 0 && workerTonight(cue) == worker) {
                int begin = cue.bar * ticks;
                if (workedBefore && begin < endBefore + rest) {
                    count++;
                }
                workedBefore = true;
                endBefore = begin + cue.work;
            }
        }
        return count;
    }

    private boolean plannedAllManned() {
        for (int i = 0; i < cues.size(); i++) {
            Cue cue = cues.get(i);
            if (cue.work > 0 && workerTonight(cue) == NOBODY) {
                return false;
            }
        }
        return true;
    }

    private boolean plannedWithoutClash(int ticks) {
        for (int worker = 0; worker < WORKERS; worker++) {
            if (plannedClashes(worker, ticks) > 0) {
                return false;
            }
        }
        return true;
    }

    private boolean isFineWith(int atTempo) {
        int ticks = barTicks(atTempo);
        planWork(ticks);
        // The search for meetings is the dearest, so it comes last.
        return plannedAllManned() && plannedWithoutClash(ticks) && firstMeeting(ticks) == NONE;
    }

    /** A cue as it is written, and how many ticks it is worked on in the night planned last. */
    private static final class Cue {
        final Machine machine;
        final int bar;
        final int target;
        final int worker;
        boolean struck;
        int work;

        Cue(Machine machine, int bar, int target, int worker) {
            this.machine = machine;
            this.bar = bar;
            this.target = target;
            this.worker = worker;
        }
    }

    /** A machine as it is built, and where it is in the night that is being run through. */
    private static final class Machine {
        final int track;
        final int first;
        final int width;
        final int speed;
        final Cue[] cueOfBar = new Cue[MOST_BARS];
        int place;
        Cue running;

        /** A turntable is a machine whose track is NONE. */
        Machine(int track, int first, int width, int speed) {
            this.track = track;
            this.first = first;
            this.width = width;
            this.speed = speed;
        }

        boolean turns() {
            return track == NONE;
        }

        int lastPlace() {
            return turns() ? CIRCLE - 1 : LAST_PLACE;
        }

        void setCueOfBar(int bar, Cue cue) {
            if (bar >= 0 && bar < cueOfBar.length) {
                cueOfBar[bar] = cue;
            }
        }

        void rewind() {
            place = first;
            running = null;
        }

        void startBar(int bar) {
            if (bar >= 0 && bar < cueOfBar.length && cueOfBar[bar] != null) {
                running = cueOfBar[bar];
            }
        }

        /** Upwards it is above 0, downwards below. */
        int wayToTarget() {
            if (running == null) {
                return 0;
            }
            int way = running.target - place;
            if (!turns()) {
                return way;
            }
            int up = Math.floorMod(way, CIRCLE);
            return 2 * up <= CIRCLE ? up : up - CIRCLE;
        }

        int ticksToTarget() {
            return speed < 1 ? 0 : (Math.abs(wayToTarget()) + speed - 1) / speed;
        }

        /** Goes on for some ticks under the running cue, and tells whether it moved. */
        boolean go(int ticks) {
            int reach = speed * ticks;
            int step = Math.max(-reach, Math.min(reach, wayToTarget()));
            place += step;
            if (turns()) {
                place = Math.floorMod(place, CIRCLE);
            }
            return step != 0;
        }

        void workThroughBar(int ticks) {
            if (running != null) {
                running.work += Math.min(ticks, ticksToTarget());
            }
            go(ticks);
        }

        boolean meets(Machine other) {
            return !turns() && track == other.track
                    && 2 * Math.abs(place - other.place) < width + other.width;
        }
    }
}

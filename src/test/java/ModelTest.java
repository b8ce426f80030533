import java.util.ArrayList;
import java.util.HashSet;
import java.util.List;
import java.util.Random;
import java.util.Set;

/**
 * Long runs of calls, answered by the class and by a model that keeps to the document's words tick by tick.
 * The seeds are fixed, so each run is the same every time.
 */
public final class ModelTest {
    private static final int RUNS = 200;
    private static final int CALLS = 512;
    private static final String INDEX = "throws.IndexOutOfBoundsException";
    private static final String ARGUMENT = "throws.IllegalArgumentException";
    private static final String STATE = "throws.IllegalStateException";

    /** What the document says, without a thought for speed; answers are texts, exceptions too. */
    private static final class Model {
        private final List<int[]> machines = new ArrayList<>();
        private final List<int[]> cues = new ArrayList<>();
        private final Set<Integer> struckOut = new HashSet<>();
        private final boolean[] strikes = new boolean[6];
        private final int[] substitutes = {-1, -1, -1, -1, -1, -1};
        private int bars = 16;
        private int ticks = 20;
        private int tempo = 100;
        private int rest = 5;
        private int limit = 400;
        // The night told tick by tick, made anew for every question.
        private int bar;
        private int end;
        private int[][] places;
        private int[] begins;
        private int[] ends;

        private static boolean out(int value, int least, int most) {
            return value < least || value > most;
        }

        String wagon(int track, int place, int width, int speed) {
            if (out(track, 0, 2) || out(place, 0, 200) || out(width, 1, 20) || out(speed, 1, 10)) {
                return ARGUMENT;
            }
            if (machines.size() == 6) {
                return STATE;
            }
            machines.add(new int[] {track, place, width, speed});
            return "" + (machines.size() - 1);
        }

        String turntable(int angle, int speed) {
            if (out(angle, 0, 359) || out(speed, 1, 10)) {
                return ARGUMENT;
            }
            if (machines.size() == 6) {
                return STATE;
            }
            machines.add(new int[] {-1, angle, 0, speed});
            return "" + (machines.size() - 1);
        }

        String setScore(int newBars, int newTicks) {
            if (out(newBars, 1, 30) || out(newTicks, 1, 40)) {
                return ARGUMENT;
            }
            for (int c = 0; c < cues.size(); c++) {
                if (!struckOut.contains(c) && cues.get(c)[1] > newBars - 1) {
                    return STATE;
                }
            }
            bars = newBars;
            ticks = newTicks;
            return "";
        }

        String cue(int machine, int atBar, int target, int worker) {
            if (out(machine, 0, machines.size() - 1)) {
                return INDEX;
            }
            int most = machines.get(machine)[0] == -1 ? 359 : 200;
            if (out(atBar, 0, bars - 1) || out(target, 0, most) || out(worker, 0, 5)) {
                return ARGUMENT;
            }
            if (cues.size() == 24) {
                return STATE;
            }
            cues.add(new int[] {machine, atBar, target, worker});
            return "" + (cues.size() - 1);
        }

        private boolean noCue(int cue) {
            return out(cue, 0, cues.size() - 1) || struckOut.contains(cue);
        }

        String strikeOut(int cue) {
            if (noCue(cue)) {
                return INDEX;
            }
            struckOut.add(cue);
            return "" + cues.get(cue)[1];
        }

        String setTempo(int newTempo) {
            if (out(newTempo, 50, 200)) {
                return ARGUMENT;
            }
            int before = tempo;
            tempo = newTempo;
            return "" + before;
        }

        String setRules(int newRest, int newLimit) {
            if (out(newRest, 0, 100) || out(newLimit, 0, 2400)) {
                return ARGUMENT;
            }
            rest = newRest;
            limit = newLimit;
            return "";
        }

        String strike(int worker, boolean does) {
            if (out(worker, 0, 5)) {
                return ARGUMENT;
            }
            boolean before = strikes[worker];
            strikes[worker] = does;
            return "" + before;
        }

        String substitute(int worker, int other) {
            if (out(worker, 0, 5) || out(other, -1, 5)) {
                return ARGUMENT;
            }
            int before = substitutes[worker];
            substitutes[worker] = other;
            return "" + before;
        }

        private int barAt(int atTempo) {
            int whole = 0;
            while ((whole + 1) * atTempo <= ticks * 100) {
                whole++;
            }
            return whole == 0 ? 1 : whole;
        }

        private int effective(int machine, int tick) {
            int found = -1;
            for (int c = 0; c < cues.size(); c++) {
                int[] cue = cues.get(c);
                if (!struckOut.contains(c) && cue[0] == machine && cue[1] * bar == tick && tick < end) {
                    found = c;
                }
            }
            return found;
        }

        private int oneTick(int[] machine, int from, int target) {
            int place = from;
            boolean upwards = target > place;
            if (machine[0] == -1) {
                int ups = 0;
                while ((place + ups) % 360 != target) {
                    ups++;
                }
                upwards = ups <= 180;
            }
            for (int i = 0; i < machine[3] && place != target; i++) {
                place += upwards ? 1 : -1;
                if (machine[0] == -1) {
                    place = (place + 360) % 360;
                }
            }
            return place;
        }

        private void tellNight(int atTempo) {
            bar = barAt(atTempo);
            end = bars * bar;
            places = new int[machines.size()][end + 1];
            begins = new int[cues.size()];
            ends = new int[cues.size()];
            for (int m = 0; m < machines.size(); m++) {
                int[] machine = machines.get(m);
                int running = -1;
                boolean working = false;
                places[m][0] = machine[1];
                for (int t = 0; t < end; t++) {
                    int next = effective(m, t);
                    if (next != -1) {
                        running = next;
                        begins[next] = t;
                        ends[next] = t;
                        working = true;
                    }
                    working = working && places[m][t] != cues.get(running)[2];
                    places[m][t + 1] = running == -1
                            ? places[m][t] : oneTick(machine, places[m][t], cues.get(running)[2]);
                    if (working) {
                        ends[running] = t + 1;
                    }
                }
            }
        }

        String bar() {
            return "" + barAt(tempo);
        }

        String end() {
            return "" + bars * barAt(tempo);
        }

        String place(int machine, int tick) {
            if (out(machine, 0, machines.size() - 1)) {
                return INDEX;
            }
            tellNight(tempo);
            return out(tick, 0, end) ? ARGUMENT : "" + places[machine][tick];
        }

        String placeAtBar(int machine, int atBar) {
            if (out(machine, 0, machines.size() - 1)) {
                return INDEX;
            }
            tellNight(tempo);
            return out(atBar, 0, bars) ? ARGUMENT : "" + places[machine][atBar * bar];
        }

        private int[] firstMeeting() {
            for (int t = 0; t <= end; t++) {
                for (int a = 0; a < machines.size(); a++) {
                    for (int b = a + 1; b < machines.size(); b++) {
                        int[] one = machines.get(a);
                        int[] two = machines.get(b);
                        int apart = Math.abs(places[a][t] - places[b][t]);
                        if (one[0] != -1 && one[0] == two[0] && 2 * apart < one[2] + two[2]) {
                            return new int[] {t, 10 * a + b};
                        }
                    }
                }
            }
            return new int[] {-1, -1};
        }

        String meeting() {
            tellNight(tempo);
            return "" + firstMeeting()[0];
        }

        String meeters() {
            tellNight(tempo);
            return "" + firstMeeting()[1];
        }

        private int workerOf(int cue) {
            Set<Integer> asked = new HashSet<>();
            int worker = cues.get(cue)[3];
            while (worker != -1 && strikes[worker]) {
                if (!asked.add(worker)) {
                    return -1;
                }
                worker = substitutes[worker];
            }
            return worker;
        }

        String worker(int cue) {
            return noCue(cue) ? INDEX : "" + workerOf(cue);
        }

        String takes(int cue) {
            if (noCue(cue)) {
                return INDEX;
            }
            tellNight(tempo);
            return "" + (ends[cue] - begins[cue]);
        }

        private int clashCount(int worker) {
            List<Integer> order = new ArrayList<>();
            for (int c = 0; c < cues.size(); c++) {
                if (ends[c] > begins[c] && workerOf(c) == worker) {
                    order.add(c);
                }
            }
            order.sort((a, b) -> begins[a] != begins[b] ? begins[a] - begins[b] : a - b);
            int count = 0;
            for (int i = 1; i < order.size(); i++) {
                int first = ends[order.get(i - 1)];
                int second = begins[order.get(i)];
                count += second - first < rest || second < first ? 1 : 0;
            }
            return count;
        }

        String clashes(int worker) {
            if (out(worker, 0, 5)) {
                return ARGUMENT;
            }
            tellNight(tempo);
            return "" + clashCount(worker);
        }

        String overtime(int worker) {
            if (out(worker, 0, 5)) {
                return ARGUMENT;
            }
            tellNight(tempo);
            Set<Integer> over = new HashSet<>();
            for (int c = 0; c < cues.size(); c++) {
                for (int t = begins[c]; t < ends[c]; t++) {
                    if (t >= limit && workerOf(c) == worker) {
                        over.add(t);
                    }
                }
            }
            return "" + over.size();
        }

        private boolean fineAt(int atTempo) {
            tellNight(atTempo);
            boolean fine = firstMeeting()[0] == -1;
            for (int worker = 0; worker < 6; worker++) {
                fine &= clashCount(worker) == 0;
            }
            for (int c = 0; c < cues.size(); c++) {
                fine &= ends[c] == begins[c] || workerOf(c) != -1;
            }
            return fine;
        }

        String isFine() {
            return "" + fineAt(tempo);
        }

        String fastest() {
            int best = -1;
            for (int tried = 50; tried <= 200; tried += 10) {
                best = fineAt(tried) ? tried : best;
            }
            return "" + best;
        }
    }

    private interface Asked {
        Object answer();
    }

    private static String told(Asked call) {
        try {
            return "" + call.answer();
        } catch (RuntimeException thrown) {
            // What the Java machine or its library throws by itself is never due.
            boolean ofClass = thrown.getStackTrace()[0].getClassName().startsWith("OperaMachines");
            return (ofClass ? "throws." : "machine throws.") + thrown.getClass().getSimpleName();
        }
    }

    private final Random random;
    private final OperaMachines real = new OperaMachines();
    private final Model model = new Model();
    private final int wrongInTen;
    private final int calm;
    private String call;

    private ModelTest(int seed) {
        random = new Random(seed);
        wrongInTen = seed % 4;
        calm = seed % 3;
    }

    /** Mostly within the range, its ends often, and now and then just or far outside. */
    private int some(int least, int most) {
        int kind = random.nextInt(40);
        if (kind < 4) {
            return kind < 2 ? least : most;
        }
        if (kind == 4 && random.nextInt(10) < wrongInTen) {
            int[] outside = {least - 1, most + 1, Integer.MIN_VALUE, Integer.MAX_VALUE, -1, 1000};
            return outside[random.nextInt(outside.length)];
        }
        return most < least ? least : least + random.nextInt(most - least + 1);
    }

    private String[] build() {
        if (random.nextInt(4) == 0) {
            int angle = some(0, 359);
            int speed = some(1, 10);
            call = "turntable(" + angle + ", " + speed + ")";
            return new String[] {told(() -> real.turntable(angle, speed)), model.turntable(angle, speed)};
        }
        int track = some(0, 2);
        int place = some(0, 200);
        int width = some(1, calm == 0 ? 20 : 4);
        int speed = some(1, calm == 1 ? 2 : 10);
        call = "wagon(" + track + ", " + place + ", " + width + ", " + speed + ")";
        return new String[] {told(() -> real.wagon(track, place, width, speed)),
            model.wagon(track, place, width, speed)};
    }

    private String[] setScore() {
        int bars = some(1, 30);
        int ticks = some(1, 40);
        call = "setScore(" + bars + ", " + ticks + ")";
        return new String[] {told(() -> { real.setScore(bars, ticks); return ""; }), model.setScore(bars, ticks)};
    }

    private String[] cue() {
        int machine = some(0, model.machines.size() - 1);
        int bar = some(0, model.bars - 1);
        int target = some(0, random.nextInt(3) == 0 ? 359 : 200);
        int worker = some(0, 5);
        call = "cue(" + machine + ", " + bar + ", " + target + ", " + worker + ")";
        return new String[] {told(() -> real.cue(machine, bar, target, worker)),
            model.cue(machine, bar, target, worker)};
    }

    private String[] strikeOut() {
        int cue = some(0, model.cues.size() - 1);
        call = "strikeOut(" + cue + ")";
        return new String[] {told(() -> real.strikeOut(cue)), model.strikeOut(cue)};
    }

    private String[] night() {
        switch (random.nextInt(4)) {
            case 0: {
                int tempo = some(50, 200);
                call = "setTempo(" + tempo + ")";
                return new String[] {told(() -> real.setTempo(tempo)), model.setTempo(tempo)};
            }
            case 1: {
                int rest = some(0, random.nextBoolean() ? 100 : 8);
                int limit = some(0, random.nextBoolean() ? 2400 : 300);
                call = "setRules(" + rest + ", " + limit + ")";
                return new String[] {told(() -> { real.setRules(rest, limit); return ""; }),
                    model.setRules(rest, limit)};
            }
            case 2: {
                int worker = some(0, 5);
                boolean strikes = random.nextInt(3) == 0;
                call = "strike(" + worker + ", " + strikes + ")";
                return new String[] {told(() -> real.strike(worker, strikes)), model.strike(worker, strikes)};
            }
            default: {
                int worker = some(0, 5);
                int other = some(-1, 5);
                call = "substitute(" + worker + ", " + other + ")";
                return new String[] {told(() -> real.substitute(worker, other)), model.substitute(worker, other)};
            }
        }
    }

    private String[] places() {
        int machine = some(0, model.machines.size() - 1);
        switch (random.nextInt(6)) {
            case 0:
                call = "bar()";
                return new String[] {told(real::bar), model.bar()};
            case 1:
                call = "end()";
                return new String[] {told(real::end), model.end()};
            case 2: {
                int tick = some(0, Integer.parseInt(model.end()));
                call = "place(" + machine + ", " + tick + ")";
                return new String[] {told(() -> real.place(machine, tick)), model.place(machine, tick)};
            }
            case 3: {
                int bar = some(0, model.bars);
                call = "placeAtBar(" + machine + ", " + bar + ")";
                return new String[] {told(() -> real.placeAtBar(machine, bar)), model.placeAtBar(machine, bar)};
            }
            case 4:
                call = "meeting()";
                return new String[] {told(real::meeting), model.meeting()};
            default:
                call = "meeters()";
                return new String[] {told(real::meeters), model.meeters()};
        }
    }

    private String[] work() {
        int cue = some(0, model.cues.size() - 1);
        int worker = some(0, 5);
        switch (random.nextInt(random.nextInt(4) == 0 ? 6 : 5)) {
            case 0:
                call = "worker(" + cue + ")";
                return new String[] {told(() -> real.worker(cue)), model.worker(cue)};
            case 1:
                call = "takes(" + cue + ")";
                return new String[] {told(() -> real.takes(cue)), model.takes(cue)};
            case 2:
                call = "clashes(" + worker + ")";
                return new String[] {told(() -> real.clashes(worker)), model.clashes(worker)};
            case 3:
                call = "overtime(" + worker + ")";
                return new String[] {told(() -> real.overtime(worker)), model.overtime(worker)};
            case 4:
                call = "isFine()";
                return new String[] {told(real::isFine), model.isFine()};
            default:
                call = "fastest()";
                return new String[] {told(real::fastest), model.fastest()};
        }
    }

    private String[] next() {
        int kind = random.nextInt(100);
        if (kind < 4) {
            return build();
        }
        if (kind < 7) {
            return setScore();
        }
        if (kind < 7 + 6 * (calm + 1)) {
            return cue();
        }
        if (kind < 9 + 6 * (calm + 1)) {
            return strikeOut();
        }
        if (kind < 40) {
            return night();
        }
        return kind < 65 ? places() : work();
    }

    /** Tells the first wrong answer of a run, with every call before it; null if there is none. */
    private String firstWrong() {
        StringBuilder before = new StringBuilder();
        for (int i = 0; i < CALLS; i++) {
            String[] answers = next();
            before.append("  ").append(call).append(" ").append(answers[0]).append("\n");
            if (!answers[0].equals(answers[1])) {
                return before + "  due is " + answers[1];
            }
        }
        return null;
    }

    public static void main(String[] args) {
        int wrong = 0;
        for (int seed = 0; seed < RUNS; seed++) {
            String found = new ModelTest(seed).firstWrong();
            if (found != null) {
                wrong++;
                System.out.println("run " + seed + ":\n" + found);
            }
        }
        System.out.println("ModelTest: " + wrong + " of " + RUNS + " runs wrong");
        if (wrong != 0) {
            System.exit(1);
        }
    }
}

/** Each promise by hand with ordinary inputs; its edges and wrong inputs are BoundaryTest's and TermsTest's. */
public final class PromiseTest {
    private static final String INDEX = Tries.INDEX;
    private static final String STATE = Tries.STATE;

    private static void due(Object want, String what, Object got) {
        Tries.due(want, what, got);
    }

    private static String thrown(Tries.Call call) {
        return Tries.thrown(call);
    }

    private static OperaMachines busy() {
        return Stages.busy();
    }

    private static void newObject() {
        OperaMachines x = new OperaMachines();
        due(20, "bar()", x.bar());
        due(320, "end()", x.end());
        due(INDEX, "place(0, 0)", thrown(() -> x.place(0, 0)));
        due(INDEX, "placeAtBar(0, 0)", thrown(() -> x.placeAtBar(0, 0)));
        due(INDEX, "worker(0)", thrown(() -> x.worker(0)));
        due(INDEX, "takes(0)", thrown(() -> x.takes(0)));
        due(INDEX, "strikeOut(0)", thrown(() -> x.strikeOut(0)));
        due(-1, "meeting()", x.meeting());
        due(-1, "meeters()", x.meeters());
        due(true, "isFine()", x.isFine());
        due(200, "fastest()", x.fastest());
        for (int w = 0; w < 6; w++) {
            due(0, "clashes", x.clashes(w));
            due(0, "overtime", x.overtime(w));
            due(false, "strike", x.strike(w, false));
            due(-1, "substitute", x.substitute(w, -1));
        }
        due(100, "the first tempo", x.setTempo(100));
        due(0, "the first machine", x.wagon(0, 0, 1, 1));
        due(0, "the first cue", x.cue(0, 15, 0, 0));
        firstRules();
    }

    private static void firstRules() {
        OperaMachines x = new OperaMachines();
        x.wagon(0, 0, 1, 1);
        x.wagon(1, 0, 1, 1);
        x.cue(0, 0, 15, 0);
        x.cue(1, 1, 5, 0);
        due(0, "clashes with 5 ticks between", x.clashes(0));
        x.cue(0, 0, 16, 0);
        due(1, "clashes with 4 ticks between", x.clashes(0));
        OperaMachines y = new OperaMachines();
        y.setScore(30, 20);
        y.wagon(0, 0, 1, 1);
        y.cue(0, 19, 21, 0);
        due(1, "overtime of a work to tick 401", y.overtime(0));
        // Objects share nothing.
        due(320, "end() of another object", x.end());
    }

    private static void wagons() {
        OperaMachines x = busy();
        due(3, "wagon of the least", x.wagon(0, 0, 1, 1));
        due(4, "wagon of the most", x.wagon(2, 200, 20, 10));
        due(5, "wagon after those", x.wagon(1, 100, 7, 5));
        due(0, "place of the least", x.place(3, 0));
        due(200, "place of the most", x.place(4, 0));
        due(100, "place of the last", x.placeAtBar(5, 8));
        x.cue(4, 0, 0, 5);
        due(20, "takes at speed 10", x.takes(4));
    }

    private static void turntables() {
        OperaMachines x = busy();
        due(3, "turntable of the least", x.turntable(0, 1));
        due(4, "turntable of the most", x.turntable(359, 10));
        due(5, "wagon after turntables", x.wagon(0, 150, 1, 1));
        due(0, "place of the least", x.place(3, 0));
        due(359, "place of the most", x.place(4, 5));
        x.cue(4, 0, 259, 5);
        due(10, "takes at speed 10", x.takes(4));
    }

    private static void scores() {
        OperaMachines x = busy();
        x.setScore(30, 40);
        due(44, "bar() after the most", x.bar());
        due(30 * 44, "end() after the most", x.end());
        x.setScore(8, 1);
        due(1, "bar() after the least ticks", x.bar());
        x.cue(2, 7, 10, 0);
        x.strikeOut(4);
        due(STATE, "setScore without the other cue's bar", thrown(() -> Tries.setScore(x, 7, 1)));
        x.strikeOut(3);
        x.setScore(7, 2);
        due(14, "end() with the cue struck out", x.end());
        OperaMachines y = new OperaMachines();
        y.setScore(1, 1);
        due(1, "end() of one tick", y.end());
    }

    private static void cues() {
        OperaMachines x = busy();
        due(4, "cue of the least", x.cue(0, 0, 0, 0));
        due(5, "cue of the most", x.cue(1, 7, 200, 5));
        due(6, "cue of a turntable", x.cue(2, 7, 359, 5));
        x.strikeOut(6);
        for (int i = 7; i < 24; i++) {
            due(i, "a cue's number", x.cue(0, 3, 10, 0));
        }
        cueEffects();
    }

    private static void cueEffects() {
        OperaMachines x = new OperaMachines();
        x.wagon(0, 100, 1, 5);
        x.cue(0, 2, 150, 0);
        x.cue(0, 1, 60, 0);
        x.cue(0, 2, 90, 1);
        due(100, "place before the first cue", x.placeAtBar(0, 1));
        due(60, "place after the earlier bar", x.placeAtBar(0, 2));
        due(90, "place by the highest of a bar", x.placeAtBar(0, 3));
        due(0, "takes of the lower of a bar", x.takes(0));
    }

    private static void strikingOut() {
        OperaMachines x = busy();
        due(6, "strikeOut(2)", x.strikeOut(2));
        due(60, "place without the cue", x.placeAtBar(1, 8));
        due(0, "strikeOut(0)", x.strikeOut(0));
        due(0, "takes of a cue that finds its machine at the target", x.takes(1));
        due(4, "the next cue's number", x.cue(0, 1, 15, 0));
        due(15, "place by the higher", x.placeAtBar(0, 2));
        due(1, "strikeOut(1), outranked", x.strikeOut(1));
        due(15, "place still by the higher", x.placeAtBar(0, 2));
        x.cue(0, 1, 20, 0);
        due(1, "strikeOut(5)", x.strikeOut(5));
        due(15, "place by the lower again", x.placeAtBar(0, 2));
        due(5, "takes of the lower again", x.takes(4));
        OperaMachines y = new OperaMachines();
        y.wagon(0, 0, 1, 1);
        y.cue(0, 0, 7, 0);
        y.cue(0, 0, 9, 0);
        y.strikeOut(1);
        due(7, "place by cue 0 again", y.placeAtBar(0, 16));
        y.strikeOut(0);
        due(0, "place without any cue", y.placeAtBar(0, 16));
    }

    private static void tempos() {
        OperaMachines x = busy();
        due(90, "setTempo(50)", x.setTempo(50));
        due(40, "bar() at 50", x.bar());
        due(50, "setTempo(200)", x.setTempo(200));
        due(10, "bar() at 200", x.bar());
        due(200, "setTempo(101)", x.setTempo(101));
        // Machines keep their speeds.
        due(30, "takes as many ticks of longer bars", x.takes(0) + x.takes(1));
        x.setTempo(200);
        due(20, "takes as many ticks as shorter bars leave", x.takes(0) + x.takes(1));
    }

    private static void rules() {
        OperaMachines x = busy();
        // The first cue ends at tick 15, the second begins at 22.
        due(0, "clashes with rest 7", x.clashes(0));
        x.setRules(8, 2400);
        due(1, "clashes with rest 8", x.clashes(0));
        due(0, "overtime with limit 2400", x.overtime(0));
        x.setRules(100, 0);
        due(30, "overtime with limit 0", x.overtime(0));
        x.setRules(0, 36);
        due(0, "clashes with rest 0", x.clashes(0));
        due(1, "overtime with limit 36", x.overtime(0));
    }

    private static void strikes() {
        OperaMachines x = busy();
        due(false, "strike(0, true)", x.strike(0, true));
        due(-1, "worker(0) without a substitute", x.worker(0));
        due(true, "strike(0, true) again", x.strike(0, true));
        due(1, "worker(2), who works", x.worker(2));
        due(25, "place moved all the same", x.place(0, 15));
        due(true, "strike(0, false)", x.strike(0, false));
        due(false, "strike(0, false) again", x.strike(0, false));
        due(0, "worker(0) after the strike", x.worker(0));
        due(false, "strike(5, true)", x.strike(5, true));
    }

    private static void substitutes() {
        OperaMachines x = busy();
        due(4, "substitute(3, 5)", x.substitute(3, 5));
        due(5, "substitute(3, -1)", x.substitute(3, -1));
        due(-1, "substitute(3, 0)", x.substitute(3, 0));
        due(-1, "substitute(0, 5)", x.substitute(0, 5));
        due(0, "worker(0), who does not strike", x.worker(0));
        x.strike(0, true);
        due(5, "worker(0), who strikes", x.worker(0));
        due(5, "substitute(0, 0)", x.substitute(0, 0));
        due(-1, "worker(0), their own substitute", x.worker(0));
    }

    private static void barTicks() {
        OperaMachines x = new OperaMachines();
        int[][] bars = {{20, 100, 20}, {20, 150, 13}, {20, 199, 10}, {20, 201, 10}, {1, 101, 1}, {1, 200, 1},
            {1, 50, 2}, {40, 50, 80}, {3, 200, 1}, {7, 51, 13}, {39, 100, 39}};
        for (int[] row : bars) {
            x.setScore(5, row[0]);
            x.setTempo(Math.min(200, row[1]));
            due(row[2], "bar() of " + row[0] + " ticks at " + row[1], x.bar());
        }
    }

    private static void nightEnds() {
        OperaMachines x = new OperaMachines();
        x.setScore(30, 40);
        due(1200, "end()", x.end());
        x.setTempo(50);
        due(2400, "end() of the longest night", x.end());
        // Each bar is rounded, not the whole night.
        x.setTempo(150);
        due(30 * 26, "end() at 150", x.end());
        x.setScore(1, 1);
        due(1, "end() of the shortest night", x.end());
    }

    private static void places() {
        OperaMachines x = busy();
        due(20, "place at the end", x.place(1, 176));
        due(10, "place at 0", x.place(0, 0));
        due(11, "place at 1", x.place(0, 1));
        due(24, "place at 14", x.place(0, 14));
        due(25, "place at 15", x.place(0, 15));
        due(25, "place at 22", x.place(0, 22));
        due(24, "place at 23", x.place(0, 23));
        due(60, "place at the beginning of its bar", x.place(1, 132));
        due(58, "place a tick on", x.place(1, 133));
        wagonStopsAtTarget();
        turntableTurns();
    }

    private static void wagonStopsAtTarget() {
        OperaMachines x = new OperaMachines();
        x.wagon(0, 0, 1, 7);
        x.cue(0, 0, 10, 0);
        x.cue(0, 1, 1, 0);
        int[][] due = {{0, 0}, {1, 7}, {2, 10}, {3, 10}, {20, 10}, {21, 3}, {22, 1}, {23, 1}, {320, 1}};
        for (int[] row : due) {
            due(row[1], "place of a wagon of speed 7 at " + row[0], x.place(0, row[0]));
        }
    }

    private static void turntableTurns() {
        int[][] turns = {{0, 180, 1}, {10, 190, 11}, {190, 10, 191}, {0, 181, 359}, {0, 179, 1}, {359, 0, 0},
            {0, 359, 359}, {180, 0, 181}, {5, 5, 5}, {350, 169, 351}, {350, 171, 349}};
        for (int[] row : turns) {
            OperaMachines x = new OperaMachines();
            x.turntable(row[0], 1);
            x.cue(0, 0, row[1], 0);
            due(row[2], "place of a turntable from " + row[0] + " to " + row[1], x.place(0, 1));
            due(row[1], "the end of that turn", x.place(0, 200));
            due(row[1], "the end of that turn by bars", x.placeAtBar(0, 10));
        }
        OperaMachines y = new OperaMachines();
        y.turntable(355, 10);
        y.cue(0, 0, 12, 0);
        due(5, "place over the top", y.place(0, 1));
        due(12, "place not beyond the target", y.place(0, 2));
    }

    private static void placesAtBars() {
        OperaMachines x = busy();
        due(10, "placeAtBar(0, 0)", x.placeAtBar(0, 0));
        due(25, "placeAtBar(0, 1)", x.placeAtBar(0, 1));
        due(10, "placeAtBar(0, 2)", x.placeAtBar(0, 2));
        due(60, "placeAtBar(1, 6)", x.placeAtBar(1, 6));
        due(20, "placeAtBar(1, 7)", x.placeAtBar(1, 7));
        due(20, "placeAtBar(1, 8)", x.placeAtBar(1, 8));
        for (int tempo = 50; tempo <= 200; tempo += 7) {
            OperaMachines y = busy();
            y.setTempo(tempo);
            for (int m = 0; m < 3; m++) {
                for (int b = 0; b <= 8; b++) {
                    due(y.place(m, b * y.bar()), "placeAtBar(" + m + ", " + b + ") at " + tempo,
                            y.placeAtBar(m, b));
                }
            }
        }
    }

    private static void meetings() {
        OperaMachines x = new OperaMachines();
        x.setScore(2, 10);
        x.wagon(1, 0, 4, 1);
        x.wagon(1, 22, 5, 1);
        x.turntable(0, 10);
        due(-1, "meeting() of still wagons", x.meeting());
        x.cue(0, 0, 200, 0);
        // 4 and 5 wide they meet when less than 4.5 apart: at place 18.
        due(18, "meeting() at less than half the widths", x.meeting());
        x.setTempo(110);
        due(18, "meeting() at the last tick but none", x.meeting());
        due(18, "end() then", x.end());
        x.setTempo(120);
        due(-1, "meeting() after the end", x.meeting());
        x.setTempo(100);
        x.cue(1, 1, 100, 0);
        due(-1, "meeting() of a wagon that goes away", x.meeting());
        x.wagon(2, 22, 20, 1);
        due(-1, "meeting() with a wagon on another track", x.meeting());
        x.strikeOut(0);
        x.wagon(1, 3, 2, 1);
        due(-1, "meeting() at just half the widths", x.meeting());
        x.wagon(1, 4, 1, 1);
        due(0, "meeting() at the beginning", x.meeting());
        meetingsOfMoving();
    }

    private static void meetingsOfMoving() {
        for (int way = -1; way <= 1; way += 2) {
            OperaMachines x = new OperaMachines();
            x.wagon(0, 100 - way, 4, 1);
            x.wagon(0, 100 - 11 * way, 4, 1);
            x.cue(0, 0, 100, 0);
            x.cue(1, 0, 100 + 100 * way, 0);
            // Both go the same way, until the one stops and the other comes up to it.
            due(8, "meeting() with the wagon ahead", x.meeting());
        }
        due(60 + 40, "meeting() of wagons that go against one another", meetingFrom(200));
        // They are 4 apart at one tick and 1 apart, behind one another, at the next.
        due(-1, "meeting() of wagons that pass between two ticks", meetingFrom(199));
    }

    private static int meetingFrom(int place) {
        OperaMachines x = new OperaMachines();
        x.wagon(0, 0, 1, 3);
        x.wagon(0, place, 1, 2);
        x.cue(0, 3, 200, 0);
        x.cue(1, 3, 0, 0);
        return x.meeting();
    }

    private static void leastMeeters() {
        OperaMachines x = new OperaMachines();
        due(-1, "meeters() without machines", x.meeters());
        x.turntable(10, 1);
        x.turntable(10, 1);
        due(-1, "meeters() of turntables", x.meeters());
        x.wagon(0, 10, 1, 1);
        due(-1, "meeters() of a turntable and a wagon", x.meeters());
        x.wagon(1, 100, 10, 1);
        x.wagon(1, 109, 10, 1);
        due(34, "meeters()", x.meeters());
        x.wagon(1, 118, 10, 1);
        due(34, "meeters(), of two pairs the least", x.meeters());
        x.cue(3, 0, 0, 0);
        due(0, "meeting() still at first", x.meeting());
        OperaMachines y = new OperaMachines();
        y.wagon(0, 0, 2, 1);
        y.wagon(0, 200, 2, 2);
        y.wagon(0, 100, 2, 3);
        y.cue(1, 0, 100, 0);
        y.cue(0, 0, 100, 0);
        due(12, "meeters() of the first meeting", y.meeters());
        due(50, "meeting() of those", y.meeting());
        y.strikeOut(0);
        due(2, "meeters() 0 and 2", y.meeters());
        y.wagon(0, 101, 1, 1);
        due(23, "meeters() at first", y.meeters());
    }

    private static void workers() {
        OperaMachines x = busy();
        due(0, "worker(0)", x.worker(0));
        for (int w = 0; w < 5; w++) {
            x.strike(w, true);
            x.substitute(w, w + 1);
        }
        due(5, "worker(0) behind five who strike", x.worker(0));
        due(5, "worker(2) behind four who strike", x.worker(2));
        x.strike(5, true);
        due(-1, "worker(0) behind six who strike", x.worker(0));
        x.substitute(5, 3);
        due(-1, "worker(0) where it goes round", x.worker(0));
        x.strike(4, false);
        due(4, "worker(0), the first who works", x.worker(0));
    }

    private static void ticksTaken() {
        OperaMachines x = busy();
        due(15, "takes until the target", x.takes(0));
        due(15, "takes back", x.takes(1));
        due(22, "takes until the end, of 60", x.takes(3));
        due(20, "takes at speed 2", x.takes(2));
        x.cue(0, 0, 200, 0);
        due(22, "takes until the next cue", x.takes(4));
        due(0, "takes of a cue that does not take effect", x.takes(0));
        x.cue(0, 2, 200, 0);
        due(22, "takes on, the way to the target being long", x.takes(1));
        x.strikeOut(4);
        x.cue(1, 7, 21, 0);
        due(1, "takes of less than a tick's way", x.takes(6));
        x.cue(1, 7, 20, 0);
        due(0, "takes at the target", x.takes(7));
        sameTargetAgain();
    }

    private static void sameTargetAgain() {
        OperaMachines x = new OperaMachines();
        x.wagon(0, 0, 1, 3);
        x.cue(0, 1, 100, 0);
        x.cue(0, 2, 100, 0);
        due(20, "takes until the same target is told again", x.takes(0));
        due(14, "takes of the rest of the way", x.takes(1));
    }

    private static void clashCounts() {
        OperaMachines x = busy();
        due(0, "clashes(0)", x.clashes(0));
        x.cue(1, 1, 100, 0);
        // In bar 1 cue 1 works from 22 to 37, cue 4 from 22 to 42.
        due(1, "clashes of the same beginning", x.clashes(0));
        x.setRules(8, 100);
        due(2, "clashes with the rest before them too", x.clashes(0));
        due(0, "clashes of another", x.clashes(1));
        x.strike(0, true);
        due(0, "clashes of a worker who strikes", x.clashes(0));
        x.substitute(0, 5);
        due(2, "clashes of the substitute", x.clashes(5));
        onlyNeighboursClash();
    }

    private static void onlyNeighboursClash() {
        OperaMachines x = new OperaMachines();
        x.setRules(0, 400);
        x.wagon(0, 0, 1, 1);
        x.wagon(1, 0, 1, 1);
        x.wagon(2, 0, 1, 1);
        x.cue(2, 3, 5, 0);
        x.cue(1, 1, 5, 0);
        x.cue(0, 0, 100, 0);
        // The long work covers both others, but only the next one follows it.
        due(1, "clashes of neighbours", x.clashes(0));
        x.cue(1, 2, 5, 0);
        due(1, "clashes with a cue between that takes no time", x.clashes(0));
        x.strikeOut(1);
        due(1, "clashes after one is struck out", x.clashes(0));
        OperaMachines y = new OperaMachines();
        y.setRules(0, 400);
        y.wagon(0, 0, 1, 1);
        y.cue(0, 0, 100, 0);
        y.cue(0, 1, 0, 0);
        due(0, "clashes without rest, end on beginning", y.clashes(0));
        y.setRules(1, 400);
        due(1, "clashes with rest 1, end on beginning", y.clashes(0));
        byNumbers();
    }

    private static void byNumbers() {
        OperaMachines x = new OperaMachines();
        x.setRules(0, 400);
        x.wagon(0, 0, 1, 1);
        x.wagon(1, 0, 1, 1);
        x.wagon(2, 0, 1, 1);
        x.cue(0, 1, 60, 0);
        x.cue(1, 1, 5, 0);
        x.cue(2, 2, 5, 0);
        due(1, "clashes, the short one second", x.clashes(0));
        OperaMachines y = new OperaMachines();
        y.setRules(0, 400);
        y.wagon(0, 0, 1, 1);
        y.wagon(1, 0, 1, 1);
        y.wagon(2, 0, 1, 1);
        y.cue(1, 1, 5, 0);
        y.cue(0, 1, 60, 0);
        y.cue(2, 2, 5, 0);
        due(2, "clashes, the long one second", y.clashes(0));
    }

    private static void overtimes() {
        OperaMachines x = busy();
        due(0, "overtime(0)", x.overtime(0));
        due(20, "overtime(1)", x.overtime(1));
        due(22, "overtime(2)", x.overtime(2));
        x.setRules(7, 151);
        due(1, "overtime(1) in its last tick", x.overtime(1));
        x.setRules(7, 152);
        due(0, "overtime(1) with the limit at the end of the work", x.overtime(1));
        x.setRules(7, 132);
        due(20, "overtime(1) with the limit at the beginning", x.overtime(1));
        x.cue(0, 6, 60, 1);
        due(44, "overtime(1), each tick once", x.overtime(1));
        x.cue(2, 4, 300, 1);
        x.setRules(7, 0);
        due(17 + 44, "overtime(1) with a pause", x.overtime(1));
        x.cue(1, 7, 10, 1);
        due(17 + 44, "overtime(1) with one inside another", x.overtime(1));
        x.strike(1, true);
        due(0, "overtime(1), who strikes", x.overtime(1));
        x.substitute(1, 2);
        due(17 + 44, "overtime(2), the substitute", x.overtime(2));
    }

    private static void fineNights() {
        OperaMachines x = busy();
        due(true, "isFine()", x.isFine());
        x.strike(2, true);
        due(false, "isFine() with nobody on a cue", x.isFine());
        x.substitute(2, 0);
        due(true, "isFine() with a substitute", x.isFine());
        x.strikeOut(3);
        x.substitute(2, -1);
        x.cue(1, 7, 20, 2);
        due(true, "isFine() with nobody on a cue that takes no time", x.isFine());
        x.setRules(8, 0);
        due(false, "isFine() with a clash", x.isFine());
        x.setRules(7, 0);
        due(true, "isFine() with overtime", x.isFine());
        x.wagon(0, 17, 2, 1);
        due(false, "isFine() with a meeting", x.isFine());
        oneTickOfWork();
        meetingAtTheEnd();
        clashOfTheLastWorker();
    }

    private static void oneTickOfWork() {
        OperaMachines x = new OperaMachines();
        x.wagon(0, 0, 1, 1);
        x.wagon(1, 0, 1, 1);
        x.cue(0, 0, 1, 3);
        due(true, "isFine() with a tick of work", x.isFine());
        x.strike(3, true);
        due(false, "isFine() with nobody on a tick of work", x.isFine());
        x.strike(3, false);
        x.setRules(5, 0);
        due(1, "overtime of a tick of work", x.overtime(3));
        x.cue(1, 0, 1, 3);
        due(1, "clashes of two ticks of work", x.clashes(3));
        due(1, "overtime of both in one tick", x.overtime(3));
        due(false, "isFine() with them", x.isFine());
    }

    private static void meetingAtTheEnd() {
        OperaMachines x = new OperaMachines();
        x.setScore(1, 9);
        x.wagon(0, 0, 1, 1);
        x.wagon(0, 10, 2, 1);
        x.cue(0, 0, 10, 0);
        due(9, "meeting() at the end", x.meeting());
        due(false, "isFine() with a meeting at the end", x.isFine());
        x.setScore(1, 8);
        due(true, "isFine() a tick shorter", x.isFine());
    }

    private static void clashOfTheLastWorker() {
        OperaMachines x = new OperaMachines();
        x.wagon(0, 0, 1, 1);
        x.wagon(1, 0, 1, 1);
        x.cue(0, 0, 10, 5);
        x.cue(1, 0, 10, 5);
        due(false, "isFine() with a clash of worker 5", x.isFine());
        x.strikeOut(1);
        x.cue(1, 0, 10, 4);
        due(true, "isFine() with another worker", x.isFine());
    }

    private static void fastestTempos() {
        OperaMachines x = new OperaMachines();
        x.wagon(0, 0, 1, 1);
        x.cue(0, 1, 13, 0);
        x.cue(0, 2, 0, 0);
        // Between work of 13 ticks and the next bar 5 are left with bars of 18 or more: up to tempo 110.
        due(110, "fastest()", x.fastest());
        due(100, "the tempo is as it was", x.setTempo(117));
        due(110, "fastest() at another tempo", x.fastest());
        x.setRules(0, 0);
        // Cut off in bars shorter than 13, the work ends as the next begins: no clash without rest.
        due(200, "fastest() without rest", x.fastest());
        x.setRules(27, 0);
        due(50, "fastest() with rest 27", x.fastest());
        x.setRules(28, 0);
        due(-1, "fastest() with rest 28", x.fastest());
        x.setRules(0, 0);
        x.strike(0, true);
        due(-1, "fastest() with nobody at work", x.fastest());
        x.strike(0, false);
        x.wagon(0, 13, 2, 1);
        due(false, "isFine() with bars long enough to meet", x.isFine());
        due(200, "fastest() with bars too short to meet", x.fastest());
        x.setScore(3, 20);
        x.strikeOut(1);
        x.setRules(100, 0);
        due(-1, "fastest() where the wagons meet at every tempo", x.fastest());
    }

    private static void check(int number, Runnable test) {
        Tries.test("promise " + number, test);
    }

    public static void main(String[] args) {
        check(1, PromiseTest::newObject);
        check(2, PromiseTest::wagons);
        check(3, PromiseTest::turntables);
        check(4, PromiseTest::scores);
        check(5, PromiseTest::cues);
        check(6, PromiseTest::strikingOut);
        check(7, PromiseTest::tempos);
        check(8, PromiseTest::rules);
        check(9, PromiseTest::strikes);
        check(10, PromiseTest::substitutes);
        check(11, PromiseTest::barTicks);
        check(12, PromiseTest::nightEnds);
        check(13, PromiseTest::places);
        check(14, PromiseTest::placesAtBars);
        check(15, PromiseTest::meetings);
        check(16, PromiseTest::leastMeeters);
        check(17, PromiseTest::workers);
        check(18, PromiseTest::ticksTaken);
        check(19, PromiseTest::clashCounts);
        check(20, PromiseTest::overtimes);
        check(21, PromiseTest::fineNights);
        check(22, PromiseTest::fastestTempos);
        Tries.end("PromiseTest");
    }
}

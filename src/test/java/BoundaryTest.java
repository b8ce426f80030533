import java.util.function.Function;
import java.util.function.Supplier;

/**
 * Each line of each promise, quoted as the document has it, with a test of its own: the least and the greatest value
 * of each parameter and those outside, what an answer may be at the least and at the most, each refused call.
 */
public final class BoundaryTest {
    private static int promise = 0;

    private static void due(Object want, String what, Object got) {
        Tries.due(want, what, got);
    }

    private static void line(String line, Runnable test) {
        Tries.sentence("Promise " + promise, line, test);
    }

    private static void refusedArgument(String what, Supplier<OperaMachines> made, Tries.CallWith call, int... values) {
        for (int value : values) {
            Tries.refused(Tries.ARGUMENT, what + " " + value, made, x -> call.answer(x, value));
        }
    }

    private static void arguments(String what, int least, int most, Supplier<OperaMachines> made, Tries.CallWith call) {
        Tries.range(Tries.ARGUMENT, what, least, most, made, call);
    }

    private static void argumentsAnywhere(String what, int least, int most, Tries.CallWith call) {
        arguments(what, least, most, Stages::empty, call);
        arguments(what, least, most, Stages::busy, call);
    }

    /** Numbers from 0 to one less than there are, and every other is refused. */
    private static void numbers(String what, int count, Supplier<OperaMachines> made, Tries.CallWith call) {
        Tries.range(Tries.INDEX, what, 0, count - 1, made, call);
    }

    private static void machineNumbers(String what, Tries.CallWith call) {
        numbers(what, 0, Stages::empty, call);
        numbers(what, 1, Stages::oneWagon, call);
        numbers(what, 3, Stages::busy, call);
        numbers(what, 6, Stages::fullOfMachines, call);
        numbers(what, 6, Stages::fullOfAll, call);
    }

    private static void cueNumbers(String what, Tries.CallWith call) {
        numbers(what, 0, Stages::empty, call);
        numbers(what, 0, Stages::fullOfWagons, call);
        numbers(what, 4, Stages::busy, call);
        numbers(what, 24, Stages::fullOfCues, call);
        numbers(what, 24, Stages::fullOfAll, call);
        numbers(what, 23, Stages::fullWithOneStruck, call);
        numbers(what, 0, Stages::fullWithAllStruck, call);
        Tries.refused(Tries.INDEX, what + " 2, struck out", Stages::withoutCueTwo, x -> call.answer(x, 2));
        due("nothing, but answers", what + " 1 throws", answered(() -> call.answer(Stages.withoutCueTwo(), 1)));
        due("nothing, but answers", what + " 3 throws", answered(() -> call.answer(Stages.withoutCueTwo(), 3)));
    }

    private static String answered(Tries.Call call) {
        return Tries.thrown(call).replaceAll(" [-0-9]*$", "");
    }

    private static void workerNumbers(String what, Tries.CallWith call) {
        arguments(what, 0, 5, Stages::empty, call);
        arguments(what, 0, 5, Stages::busy, call);
        arguments(what, 0, 5, Stages::fullOfAll, call);
    }

    // ---- promise 1

    private static void newObject() {
        promise = 1;
        line("`OperaMachines()`: Begins without machines and cues.", BoundaryTest::beginsEmpty);
    }

    private static void beginsEmpty() {
        OperaMachines x = new OperaMachines();
        due(-1, "meeting()", x.meeting());
        due(-1, "meeters()", x.meeters());
        due(true, "isFine()", x.isFine());
        due(200, "fastest()", x.fastest());
        for (int worker = 0; worker < 6; worker++) {
            due(0, "clashes(" + worker + ")", x.clashes(worker));
            due(0, "overtime(" + worker + ")", x.overtime(worker));
        }
        x.setRules(100, 0);
        x.setScore(30, 40);
        x.setTempo(50);
        due(0, "overtime(0) from 0 on", x.overtime(0));
        due(true, "isFine() of the longest night", x.isFine());
        due(200, "fastest() of it", x.fastest());
        for (int i = 0; i < 6; i++) {
            int number = i;
            due(Tries.INDEX, "place", Tries.thrown(() -> x.place(number, 0)));
            due(Tries.INDEX, "worker", Tries.thrown(() -> x.worker(number)));
        }
        due(0, "the first machine", x.turntable(0, 1));
        due(0, "the first cue", x.cue(0, 0, 0, 0));
        due(Tries.INDEX, "place in another new object", Tries.thrown(() -> new OperaMachines().place(0, 0)));
    }

    // ---- promises 2 and 3

    private static void wagons() {
        promise = 2;
        line("Builds a wagon.", BoundaryTest::aWagonIsBuilt);
        line("- `track`: 0 to 2", () -> argumentsAnywhere("track", 0, 2, (x, v) -> x.wagon(v, 150, 1, 1)));
        line("- `place`: 0 to 200", () -> argumentsAnywhere("place", 0, 200, (x, v) -> x.wagon(1, v, 1, 1)));
        line("- `width`: 1 to 20", () -> argumentsAnywhere("width", 1, 20, (x, v) -> x.wagon(2, 150, v, 1)));
        line("- `speed`: 1 to 10", () -> argumentsAnywhere("speed", 1, 10, (x, v) -> x.wagon(1, 150, 1, v)));
        line("Returns its number.", () -> numbersFromZeroToFive((x, v) -> x.wagon(v % 3, 30 * v, 1, 1)));
        line("Throws `IllegalArgumentException` if track, place, width or speed is out of range",
                BoundaryTest::aWagonOutOfRange);
        line("Throws `IllegalStateException` if there are 6 machines",
                () -> aSeventhMachine("wagon", x -> x.wagon(0, 0, 1, 1)));
    }

    private static void aWagonIsBuilt() {
        for (int place = 0; place <= 200; place += 100) {
            OperaMachines x = new OperaMachines();
            x.wagon(1, place, 3, 2);
            due(place, "its place at first", x.place(0, 0));
            due(place, "its place at the end", x.place(0, 320));
            x.cue(0, 0, 200, 0);
            due(200, "its place after a cue to 200", x.place(0, 100));
            due(Tries.ARGUMENT, "a cue to 201", Tries.thrown(() -> x.cue(0, 0, 201, 0)));
        }
    }

    private static void numbersFromZeroToFive(Tries.CallWith build) {
        OperaMachines x = new OperaMachines();
        for (int i = 0; i < 6; i++) {
            due(i, "the number", build.answer(x, i));
        }
        due(3, "the number behind three others", build.answer(Stages.busy(), 3));
    }

    private static void aWagonOutOfRange() {
        int[][] outside = {{-1, 0, 1, 1}, {3, 0, 1, 1}, {0, -1, 1, 1}, {0, 201, 1, 1}, {0, 0, 0, 1}, {0, 0, 21, 1},
            {0, 0, 1, 0}, {0, 0, 1, 11}, {3, 201, 21, 11}, {-1, -1, 0, 0}, {2, 200, 20, 11}, {3, 200, 20, 10}};
        for (int[] row : outside) {
            Tries.refused(Tries.ARGUMENT, "wagon in an empty object", Stages::empty,
                    x -> x.wagon(row[0], row[1], row[2], row[3]));
            Tries.refused(Tries.ARGUMENT, "wagon in a busy one", Stages::busy,
                    x -> x.wagon(row[0], row[1], row[2], row[3]));
            Tries.refused(Tries.ARGUMENT, "wagon in a full one", Stages::fullOfMachines,
                    x -> x.wagon(row[0], row[1], row[2], row[3]));
        }
    }

    private static void aSeventhMachine(String what, Function<OperaMachines, Object> build) {
        OperaMachines x = new OperaMachines();
        for (int i = 0; i < 6; i++) {
            due(i, "the number of a " + what, build.apply(x));
        }
        Tries.refused(Tries.STATE, "a seventh, a " + what, Stages::fullOfMachines, build);
        Tries.refused(Tries.STATE, "a seventh behind wagons, a " + what, Stages::fullOfWagons, build);
        Tries.refused(Tries.STATE, "a seventh behind turntables, a " + what, Stages::fullOfTurntables, build);
        Tries.refused(Tries.STATE, "a seventh in a full object, a " + what, Stages::fullOfAll, build);
    }

    private static void turntables() {
        promise = 3;
        line("Builds a turntable.", BoundaryTest::aTurntableIsBuilt);
        line("- `angle`: 0 to 359", () -> argumentsAnywhere("angle", 0, 359, (x, v) -> x.turntable(v, 1)));
        line("- `speed`: 1 to 10", () -> argumentsAnywhere("speed", 1, 10, (x, v) -> x.turntable(0, v)));
        line("Returns its number.", () -> numbersFromZeroToFive((x, v) -> x.turntable(60 * v, 1)));
        line("Throws `IllegalArgumentException` if angle or speed is out of range",
                BoundaryTest::aTurntableOutOfRange);
        line("Throws `IllegalStateException` if there are 6 machines",
                () -> aSeventhMachine("turntable", x -> x.turntable(0, 1)));
    }

    private static void aTurntableIsBuilt() {
        for (int angle = 0; angle <= 359; angle += 359) {
            OperaMachines x = Stages.oneTurntable(angle, 2);
            due(angle, "its place at first", x.place(0, 0));
            x.cue(0, 0, 359, 0);
            due(359, "its place after a cue to 359", x.place(0, 100));
            due(Tries.ARGUMENT, "a cue to 360", Tries.thrown(() -> x.cue(0, 0, 360, 0)));
        }
    }

    private static void aTurntableOutOfRange() {
        int[][] outside = {{-1, 1}, {360, 1}, {361, 1}, {0, 0}, {0, 11}, {0, -1}, {360, 11}, {359, 11}, {-1, 0}};
        for (int[] row : outside) {
            Tries.refused(Tries.ARGUMENT, "turntable in an empty object", Stages::empty,
                    x -> x.turntable(row[0], row[1]));
            Tries.refused(Tries.ARGUMENT, "turntable in a busy one", Stages::busy, x -> x.turntable(row[0], row[1]));
            Tries.refused(Tries.ARGUMENT, "turntable in a full one", Stages::fullOfMachines,
                    x -> x.turntable(row[0], row[1]));
        }
    }

    // ---- promise 4

    private static void scores() {
        promise = 4;
        line("Sets the score.", BoundaryTest::theScoreIsSet);
        line("- `bars`: 1 to 30", BoundaryTest::barsOfAScore);
        line("- `ticks`: of a bar as it is written, 1 to 40",
                () -> argumentsAnywhere("ticks", 1, 40, (x, v) -> Tries.setScore(x, 9, v)));
        line("Throws `IllegalArgumentException` if bars or ticks is out of range", BoundaryTest::aScoreOutOfRange);
        line("Throws `IllegalStateException` if a cue that is not struck out has a bar that there would not be",
                BoundaryTest::aScoreWithoutACuesBar);
    }

    private static void barsOfAScore() {
        arguments("bars", 1, 30, Stages::empty, (x, v) -> Tries.setScore(x, v, 13));
        refusedArgument("bars", Stages::busy, (x, v) -> Tries.setScore(x, v, 13), 0, 31);
        // The busy object has a cue in bar 7, so it takes no fewer than 8 bars.
        for (int bars = 8; bars <= 30; bars++) {
            OperaMachines x = Stages.busy();
            x.setScore(bars, 18);
            due(20 * bars, "end() of " + bars + " bars", x.end());
        }
    }

    private static void theScoreIsSet() {
        int[][] scores = {{1, 1}, {1, 40}, {30, 1}, {30, 40}, {16, 20}};
        OperaMachines x = Stages.oneWagon();
        for (int[] score : scores) {
            x.setScore(score[0], score[1]);
            due(score[1], "bar()", x.bar());
            due(score[0] * score[1], "end()", x.end());
            due(0, "placeAtBar at the end", x.placeAtBar(0, score[0]));
            due(Tries.ARGUMENT, "placeAtBar behind it", Tries.thrown(() -> x.placeAtBar(0, score[0] + 1)));
            due(Tries.ARGUMENT, "a cue behind it", Tries.thrown(() -> x.cue(0, score[0], 0, 0)));
        }
        x.cue(0, 15, 100, 0);
        due(20, "place in the last of 16 bars", x.placeAtBar(0, 16));
        x.setScore(30, 20);
        due(100, "place with more bars behind", x.placeAtBar(0, 30));
    }

    private static void aScoreOutOfRange() {
        int[][] outside = {{0, 20}, {31, 20}, {16, 0}, {16, 41}, {0, 0}, {31, 41}, {-1, -1}, {30, 41}, {31, 40},
            {7, 0}};
        for (int[] row : outside) {
            Tries.refused(Tries.ARGUMENT, "setScore in an empty object", Stages::empty,
                    x -> Tries.setScore(x, row[0], row[1]));
            Tries.refused(Tries.ARGUMENT, "setScore in a busy one", Stages::busy,
                    x -> Tries.setScore(x, row[0], row[1]));
        }
    }

    private static OperaMachines cueInBar(int bar) {
        OperaMachines x = Stages.oneWagon();
        x.setScore(30, 20);
        x.cue(0, bar, 1, 0);
        return x;
    }

    private static void aScoreWithoutACuesBar() {
        for (int b = 0; b < 30; b++) {
            int bar = b;
            if (bar > 0) {
                Tries.refused(Tries.STATE, "setScore(" + bar + ", 20) with a cue in that bar", () -> cueInBar(bar),
                        x -> Tries.setScore(x, bar, 20));
                Tries.refused(Tries.STATE, "setScore(1, 1) with a cue in bar " + bar, () -> cueInBar(bar),
                        x -> Tries.setScore(x, 1, 1));
            }
            OperaMachines y = cueInBar(bar);
            y.setScore(bar + 1, 20);
            due((bar + 1) * 20, "end() with the cue in the last bar", y.end());
            due(1, "takes of that cue", y.takes(0));
            y.strikeOut(0);
            y.setScore(1, 1);
            due(1, "end() with the cue struck out", y.end());
        }
        ofSeveralCuesEachKeepsItsBar();
        aStruckOutCueStaysOut();
    }

    private static void ofSeveralCuesEachKeepsItsBar() {
        OperaMachines x = cueInBar(29);
        x.cue(0, 29, 2, 0);
        x.cue(0, 3, 9, 0);
        due(Tries.STATE, "setScore with two cues behind it", Tries.thrown(() -> Tries.setScore(x, 29, 20)));
        x.strikeOut(1);
        due(Tries.STATE, "setScore with one cue behind it", Tries.thrown(() -> Tries.setScore(x, 29, 20)));
        due(8, "takes back to that one's target", x.takes(0));
        x.strikeOut(0);
        x.setScore(29, 20);
        due(Tries.STATE, "setScore(3, 20)", Tries.thrown(() -> Tries.setScore(x, 3, 20)));
        x.setScore(4, 20);
        due(80, "end()", x.end());
        Tries.refused(Tries.STATE, "setScore without an outranked cue's bar", () -> {
            OperaMachines y = cueInBar(5);
            y.cue(0, 5, 2, 0);
            y.strikeOut(1);
            return y;
        }, y -> Tries.setScore(y, 5, 20));
    }

    private static void aStruckOutCueStaysOut() {
        OperaMachines x = cueInBar(29);
        x.strikeOut(0);
        x.setScore(1, 20);
        x.setScore(30, 20);
        due(0, "place with the bar of a cue struck out back again", x.placeAtBar(0, 30));
        due(Tries.INDEX, "takes of that cue", Tries.thrown(() -> x.takes(0)));
    }

    // ---- promises 5 and 6

    private static void cues() {
        promise = 5;
        line("Writes a cue.", BoundaryTest::aCueIsWritten);
        line("- `bar`: one of the score", BoundaryTest::aCuesBarIsOneOfTheScore);
        line("- `target`: 0 to 200 for a wagon, 0 to 359 for a turntable", BoundaryTest::targetsAreAsTheMachineTells);
        line("- `worker`: 0 to 5", BoundaryTest::workerNumbersOfCues);
        line("Returns its number.", BoundaryTest::cueNumbersFromZeroTo23);
        line("Throws `IndexOutOfBoundsException` if there is no such machine",
                BoundaryTest::machineNumbersOfCues);
        line("Throws `IllegalArgumentException` if bar, target or worker is out of range",
                BoundaryTest::aCueOutOfRange);
        line("Throws `IllegalStateException` if there were 24 cues", BoundaryTest::a25thCue);
    }

    private static void aCueIsWritten() {
        OperaMachines x = Stages.apart();
        for (int machine = 0; machine < 6; machine++) {
            due(machine, "the number", x.cue(machine, 2 * machine, 5 + machine, machine));
            due(5 + machine, "takes", x.takes(machine));
            due(machine, "worker", x.worker(machine));
            due(0, "place before", x.placeAtBar(machine, 2 * machine));
            due(5 + machine, "place after", x.placeAtBar(machine, 2 * machine + 1));
        }
    }

    private static void aCuesBarIsOneOfTheScore() {
        for (int b : new int[] {1, 2, 16, 29, 30}) {
            int bars = b;
            arguments("cue's bar of " + bars, 0, bars - 1, () -> {
                OperaMachines x = Stages.oneWagon();
                x.setScore(bars, 20);
                return x;
            }, (x, v) -> x.cue(0, v, 1, 0));
        }
        OperaMachines y = Stages.oneWagon();
        y.setScore(30, 20);
        y.setScore(2, 20);
        due(Tries.ARGUMENT, "a cue in a bar that was there", Tries.thrown(() -> y.cue(0, 2, 1, 0)));
        y.setScore(3, 20);
        due(0, "a cue in a bar that is there again", y.cue(0, 2, 1, 0));
        // The tempo makes bars longer, not more.
        y.setTempo(50);
        due(Tries.ARGUMENT, "a cue in bar 3 at another tempo", Tries.thrown(() -> y.cue(0, 3, 1, 0)));
    }

    private static void targetsAreAsTheMachineTells() {
        arguments("a wagon's target", 0, 200, Stages::oneWagon, (x, v) -> x.cue(0, 0, v, 0));
        refusedArgument("a wagon's target", Stages::busy, (x, v) -> x.cue(1, 0, v, 0), 201, 359, 360, -1);
        arguments("a turntable's target", 0, 359, () -> Stages.oneTurntable(0, 1), (x, v) -> x.cue(0, 0, v, 0));
        refusedArgument("a turntable's target", Stages::busy, (x, v) -> x.cue(2, 0, v, 0), 360, 361, -1);
        for (int target : new int[] {0, 1, 199, 200, 201, 358, 359}) {
            OperaMachines x = Stages.oneTurntable(100, 10);
            x.cue(0, 0, target, 0);
            due(target, "a turntable's place at its target", x.placeAtBar(0, 16));
        }
    }

    private static void workerNumbersOfCues() {
        arguments("cue's worker", 0, 5, Stages::oneWagon, (x, v) -> x.cue(0, 0, 1, v));
        arguments("cue's worker", 0, 5, Stages::busy, (x, v) -> x.cue(2, 7, 0, v));
    }

    private static void machineNumbersOfCues() {
        numbers("cue's machine", 0, Stages::empty, (x, v) -> x.cue(v, 0, 0, 0));
        numbers("cue's machine", 1, Stages::oneWagon, (x, v) -> x.cue(v, 0, 0, 0));
        numbers("cue's machine", 3, Stages::busy, (x, v) -> x.cue(v, 0, 0, 0));
        numbers("cue's machine", 6, Stages::fullOfMachines, (x, v) -> x.cue(v, 0, 0, 0));
        for (int machine : new int[] {-1, 3, 6}) {
            Tries.refused(Tries.INDEX, "cue's machine, 24 cues being there", Stages::fullOfCues,
                    x -> x.cue(machine, 0, 0, 0));
        }
    }

    private static void cueNumbersFromZeroTo23() {
        OperaMachines x = Stages.apart();
        for (int cue = 0; cue < 24; cue++) {
            due(cue, "the number", x.cue(cue % 6, 15 - cue % 16, cue, cue % 6));
            if (cue % 5 == 0) {
                x.strikeOut(cue);
            }
        }
    }

    private static void aCueOutOfRange() {
        int[][] outside = {{-1, 0, 0}, {8, 0, 0}, {0, -1, 0}, {0, 201, 0}, {0, 0, -1}, {0, 0, 6}, {8, 201, 6},
            {-1, -1, -1}};
        for (int[] row : outside) {
            Tries.refused(Tries.ARGUMENT, "cue in a busy object", Stages::busy, x -> x.cue(0, row[0], row[1], row[2]));
            Tries.refused(Tries.ARGUMENT, "cue in a full one", Stages::fullOfCues,
                    x -> x.cue(0, row[0], row[1], row[2]));
        }
    }

    private static void a25thCue() {
        Tries.refused(Tries.STATE, "a 25th cue", Stages::fullOfCues, x -> x.cue(0, 0, 0, 0));
        Tries.refused(Tries.STATE, "a 25th cue of another machine", Stages::fullOfCues, x -> x.cue(2, 7, 359, 5));
        Tries.refused(Tries.STATE, "a 25th cue, one struck out", Stages::fullWithOneStruck, x -> x.cue(0, 0, 0, 0));
        Tries.refused(Tries.STATE, "a 25th cue, all struck out", Stages::fullWithAllStruck, x -> x.cue(0, 0, 0, 0));
        Tries.refused(Tries.STATE, "a 25th cue in a full object", Stages::fullOfAll, x -> x.cue(5, 29, 359, 5));
    }

    private static void strikingOut() {
        promise = 6;
        line("Strikes a cue out.", BoundaryTest::aCueIsStruckOut);
        line("Returns its bar.", BoundaryTest::strikeOutReturnsTheBar);
        line("Throws `IndexOutOfBoundsException` if there is no such cue, or it is struck out",
                () -> cueNumbers("strikeOut", (x, v) -> x.strikeOut(v)));
    }

    private static void aCueIsStruckOut() {
        OperaMachines x = Stages.oneWagon();
        x.cue(0, 0, 5, 0);
        x.cue(0, 0, 7, 0);
        x.cue(0, 0, 9, 0);
        x.strikeOut(1);
        due(9, "place without the middle one", x.placeAtBar(0, 1));
        x.strikeOut(2);
        due(5, "place without the highest", x.placeAtBar(0, 1));
        x.strikeOut(0);
        due(0, "place without any", x.placeAtBar(0, 1));
        x.cue(0, 0, 3, 0);
        due(3, "place with a new one", x.placeAtBar(0, 1));
        for (int cue = 0; cue < 3; cue++) {
            int out = cue;
            due(Tries.INDEX, "strikeOut(" + cue + ") again", Tries.thrown(() -> x.strikeOut(out)));
        }
    }

    private static void strikeOutReturnsTheBar() {
        for (int bar = 0; bar < 30; bar++) {
            due(bar, "strikeOut(0)", cueInBar(bar).strikeOut(0));
        }
        OperaMachines x = Stages.busy();
        int[] bars = {0, 1, 6, 7};
        for (int cue = 3; cue >= 0; cue--) {
            due(bars[cue], "strikeOut(" + cue + ")", x.strikeOut(cue));
        }
    }

    // ---- promises 7 and 8

    private static void tempos() {
        promise = 7;
        line("Sets the tempo.", BoundaryTest::theTempoIsSet);
        line("- `tempo`: 50 to 200", () -> argumentsAnywhere("tempo", 50, 200, (x, v) -> x.setTempo(v)));
        line("Returns the tempo before.", BoundaryTest::setTempoReturnsTheTempoBefore);
        line("Throws `IllegalArgumentException` if tempo is out of range", () -> refusedArgument("setTempo",
                Stages::fullOfAll, (x, v) -> x.setTempo(v), 49, 201, 0, -1, -100, 250, 65636));
    }

    private static void theTempoIsSet() {
        OperaMachines x = Stages.oneWagon();
        x.cue(0, 1, 15, 0);
        int[][] rows = {{50, 40, 15}, {51, 39, 15}, {133, 15, 15}, {134, 14, 14}, {199, 10, 10}, {200, 10, 10}};
        for (int[] row : rows) {
            x.setTempo(row[0]);
            due(row[1], "bar() at " + row[0], x.bar());
            due(row[2], "placeAtBar(0, 2), the speed being the same", x.placeAtBar(0, 2));
            due(15, "takes", x.takes(0));
        }
    }

    private static void setTempoReturnsTheTempoBefore() {
        OperaMachines x = new OperaMachines();
        int before = 100;
        for (int tempo = 50; tempo <= 200; tempo++) {
            due(before, "setTempo(" + tempo + ")", x.setTempo(tempo));
            before = tempo;
        }
        due(Tries.ARGUMENT, "setTempo(201)", Tries.thrown(() -> x.setTempo(201)));
        due(200, "setTempo(200), the same again", x.setTempo(200));
        x.fastest();
        due(200, "setTempo(50) after fastest()", x.setTempo(50));
    }

    private static void rules() {
        promise = 8;
        line("Sets rest and limit.", BoundaryTest::restAndLimitAreSet);
        line("- `rest`: 0 to 100", () -> argumentsAnywhere("rest", 0, 100, (x, v) -> Tries.setRules(x, v, 0)));
        line("- `limit`: 0 to 2400", () -> argumentsAnywhere("limit", 0, 2400, (x, v) -> Tries.setRules(x, 100, v)));
        line("Throws `IllegalArgumentException` if rest or limit is out of range", BoundaryTest::rulesOutOfRange);
    }

    private static void restAndLimitAreSet() {
        OperaMachines x = Stages.apart();
        x.cue(0, 0, 20, 0);
        x.cue(1, 6, 20, 0);
        int[][] rows = {{0, 0, 0, 40}, {100, 139, 0, 1}, {100, 140, 0, 0}, {100, 2400, 0, 0}, {0, 120, 0, 20}};
        for (int[] row : rows) {
            x.setRules(row[0], row[1]);
            due(row[2], "clashes with rest " + row[0], x.clashes(0));
            due(row[3], "overtime with limit " + row[1], x.overtime(0));
        }
        x.cue(0, 0, 21, 0);
        x.setRules(99, 0);
        due(0, "clashes with rest 99", x.clashes(0));
        x.setRules(100, 0);
        due(1, "clashes with rest 100", x.clashes(0));
    }

    private static void rulesOutOfRange() {
        int[][] outside = {{-1, 0}, {101, 0}, {0, -1}, {0, 2401}, {-1, -1}, {101, 2401}, {100, 2401}, {101, 2400}};
        for (int[] row : outside) {
            Tries.refused(Tries.ARGUMENT, "setRules at first", Stages::empty, x -> Tries.setRules(x, row[0], row[1]));
            Tries.refused(Tries.ARGUMENT, "setRules when busy", Stages::busy, x -> Tries.setRules(x, row[0], row[1]));
        }
    }

    // ---- promises 9 and 10

    private static void strikes() {
        promise = 9;
        line("Lets a worker strike, or not.", BoundaryTest::aWorkerStrikesOrNot);
        line("- `worker`: 0 to 5", () -> workerNumbers("strike", (x, v) -> x.strike(v, true)));
        line("- `strikes`: whether the worker does", BoundaryTest::strikesTellsWhether);
        line("Returns whether the worker did.", BoundaryTest::strikeReturnsWhetherTheWorkerDid);
        line("Throws `IllegalArgumentException` if worker is out of range",
                () -> refusedArgument("strike, not", Stages::busy, (x, v) -> x.strike(v, false), -1, 6, 7, 256));
    }

    private static void aWorkerStrikesOrNot() {
        for (int worker = 0; worker < 6; worker++) {
            OperaMachines x = Stages.oneWagon();
            x.cue(0, 0, 1, worker);
            x.strike(worker, true);
            due(-1, "worker(0) with " + worker + " striking", x.worker(0));
            x.strike(worker, false);
            due(worker, "worker(0) with " + worker + " at work", x.worker(0));
        }
    }

    private static void strikesTellsWhether() {
        OperaMachines x = Stages.apart();
        x.cue(0, 0, 1, 0);
        x.strike(0, false);
        due(0, "worker(0) of one who is let not strike", x.worker(0));
        x.strike(0, true);
        x.strike(0, true);
        due(-1, "worker(0) of one who is let strike twice", x.worker(0));
        x.strike(0, false);
        due(0, "worker(0) after one end of it", x.worker(0));
    }

    private static void strikeReturnsWhetherTheWorkerDid() {
        OperaMachines x = new OperaMachines();
        for (int worker = 0; worker < 6; worker++) {
            due(false, "strike(" + worker + ", false) at first", x.strike(worker, false));
            due(false, "strike(" + worker + ", true)", x.strike(worker, true));
            due(true, "strike(" + worker + ", true) again", x.strike(worker, true));
        }
        due(Tries.ARGUMENT, "strike(6, true)", Tries.thrown(() -> x.strike(6, true)));
        for (int worker = 0; worker < 6; worker++) {
            due(true, "strike(" + worker + ", false)", x.strike(worker, false));
            due(false, "strike(" + worker + ", false) again", x.strike(worker, false));
        }
    }

    private static void substitutes() {
        promise = 10;
        line("Sets the substitute of a worker.", BoundaryTest::theSubstituteIsSet);
        line("- `worker`: 0 to 5", () -> workerNumbers("substitute of", (x, v) -> x.substitute(v, 0)));
        line("- `substitute`: 0 to 5, or -1 for none, as at first", BoundaryTest::zeroToFiveOrNone);
        line("Returns the substitute before.", BoundaryTest::substituteReturnsTheOneBefore);
        line("Throws `IllegalArgumentException` if worker or substitute is out of range",
                BoundaryTest::substituteOutOfRange);
    }

    private static void theSubstituteIsSet() {
        for (int worker = 0; worker < 6; worker++) {
            for (int other = 0; other < 6; other++) {
                OperaMachines x = Stages.oneWagon();
                x.cue(0, 0, 1, worker);
                x.strike(worker, true);
                x.substitute(worker, other);
                due(other == worker ? -1 : other, "worker(0) for " + worker + " by " + other, x.worker(0));
                x.substitute(worker, -1);
                due(-1, "worker(0) for " + worker + " by nobody", x.worker(0));
            }
        }
    }

    private static void zeroToFiveOrNone() {
        arguments("substitute", -1, 5, Stages::empty, (x, v) -> x.substitute(5, v));
        arguments("substitute", -1, 5, Stages::busy, (x, v) -> x.substitute(3, v));
        OperaMachines x = new OperaMachines();
        for (int worker = 0; worker < 6; worker++) {
            due(-1, "substitute(" + worker + ", -1) at first", x.substitute(worker, -1));
        }
    }

    private static void substituteReturnsTheOneBefore() {
        OperaMachines x = new OperaMachines();
        for (int worker = 0; worker < 6; worker++) {
            int before = -1;
            for (int other = 5; other >= -1; other--) {
                due(before, "substitute(" + worker + ", " + other + ")", x.substitute(worker, other));
                before = other;
            }
            x.substitute(worker, worker);
        }
        due(Tries.ARGUMENT, "substitute(0, 6)", Tries.thrown(() -> x.substitute(0, 6)));
        for (int worker = 0; worker < 6; worker++) {
            due(worker, "substitute(" + worker + ", -1)", x.substitute(worker, -1));
        }
    }

    private static void substituteOutOfRange() {
        int[][] outside = {{-1, 0}, {6, 0}, {0, -2}, {0, 6}, {-1, -1}, {6, -1}, {-1, -2}, {6, 6}, {3, -2}, {3, 6}};
        for (int[] row : outside) {
            Tries.refused(Tries.ARGUMENT, "substitute(" + row[0] + ", " + row[1] + ")", Stages::busy,
                    x -> x.substitute(row[0], row[1]));
        }
    }

    // ---- promises 11 to 14

    private static void barsAndEnds() {
        promise = 11;
        line("Returns how many ticks a bar has tonight.", BoundaryTest::barsFromOneToEightyTicks);
        promise = 12;
        line("Returns at which tick the night ends.", BoundaryTest::endsFromOneTo2400);
    }

    private static OperaMachines scored(int bars, int ticks, int tempo) {
        OperaMachines x = Stages.oneWagon();
        x.setScore(bars, ticks);
        x.setTempo(tempo);
        return x;
    }

    private static void barsFromOneToEightyTicks() {
        due(1, "bar() of the least", scored(1, 1, 200).bar());
        due(1, "bar() that would be less than a tick", scored(30, 1, 101).bar());
        due(80, "bar() of the most", scored(30, 40, 50).bar());
        due(20, "bar() at first", new OperaMachines().bar());
    }

    private static void endsFromOneTo2400() {
        due(1, "end() of the least", scored(1, 1, 200).end());
        due(30, "end() of 30 bars of the least", scored(30, 1, 200).end());
        due(2400, "end() of the most", scored(30, 40, 50).end());
        due(780, "end(), each bar being rounded", scored(30, 40, 150).end());
        due(320, "end() at first", new OperaMachines().end());
    }

    private static void places() {
        promise = 13;
        line("Returns the place of a machine at a tick, found tick by tick.", BoundaryTest::placesFromZeroToTheMost);
        line("- `tick`: 0 to the end of the night", () -> {
            arguments("tick", 0, 320, Stages::oneWagon, (x, v) -> x.place(0, v));
            arguments("tick", 0, 1, () -> scored(1, 1, 200), (x, v) -> x.place(0, v));
            arguments("tick", 0, 2400, () -> scored(30, 40, 50), (x, v) -> x.place(0, v));
            arguments("tick", 0, 176, Stages::busy, (x, v) -> x.place(2, v));
        });
        line("Throws `IndexOutOfBoundsException` if there is no such machine",
                () -> machineNumbers("place's machine", (x, v) -> x.place(v, 0)));
        line("Throws `IllegalArgumentException` if tick is out of range", () -> refusedArgument("place's tick",
                Stages::fullOfAll, (x, v) -> x.place(5, v), -1, 2401, Integer.MIN_VALUE, Integer.MAX_VALUE));
    }

    private static void placesFromZeroToTheMost() {
        OperaMachines x = scored(30, 40, 50);
        x.cue(0, 29, 200, 0);
        due(0, "place at tick 2320", x.place(0, 2320));
        due(1, "place at tick 2321", x.place(0, 2321));
        due(80, "place at tick 2400", x.place(0, 2400));
        OperaMachines y = Stages.oneTurntable(1, 3);
        y.cue(0, 0, 355, 0);
        int[] downwards = {1, 358, 355, 355};
        for (int tick = 0; tick < downwards.length; tick++) {
            due(downwards[tick], "place round 0 at " + tick, y.place(0, tick));
        }
        y.cue(0, 1, 2, 0);
        int[] upwards = {355, 358, 1, 2, 2};
        for (int tick = 0; tick < upwards.length; tick++) {
            due(upwards[tick], "place round 360 at " + (20 + tick), y.place(0, 20 + tick));
        }
    }

    private static void placesAtBars() {
        promise = 14;
        line("Returns the place of a machine at the beginning of a bar, found bar by bar.",
                BoundaryTest::placesByBarsAreThoseByTicks);
        line("- `bar`: 0 to how many there are, for the end of the night", () -> {
            arguments("bar", 0, 16, Stages::oneWagon, (x, v) -> x.placeAtBar(0, v));
            arguments("bar", 0, 1, () -> scored(1, 40, 50), (x, v) -> x.placeAtBar(0, v));
            arguments("bar", 0, 30, () -> scored(30, 1, 200), (x, v) -> x.placeAtBar(0, v));
            arguments("bar", 0, 8, Stages::busy, (x, v) -> x.placeAtBar(2, v));
        });
        line("Throws `IndexOutOfBoundsException` if there is no such machine",
                () -> machineNumbers("placeAtBar's machine", (x, v) -> x.placeAtBar(v, 0)));
        line("Throws `IllegalArgumentException` if bar is out of range", () -> refusedArgument("placeAtBar's bar",
                Stages::fullOfAll, (x, v) -> x.placeAtBar(5, v), -1, 31, Integer.MIN_VALUE, Integer.MAX_VALUE));
    }

    private static void placesByBarsAreThoseByTicks() {
        for (int tempo = 50; tempo <= 200; tempo += 25) {
            for (int speed = 1; speed <= 10; speed++) {
                OperaMachines x = Stages.oneTurntable(350, speed);
                x.wagon(0, 200, 1, speed);
                x.setTempo(tempo);
                for (int machine = 0; machine < 2; machine++) {
                    x.cue(machine, 0, 170, 0);
                    x.cue(machine, 3, 20, 0);
                    x.cue(machine, 15, 160, 0);
                    for (int bar = 0; bar <= 16; bar++) {
                        due(x.place(machine, bar * x.bar()), "placeAtBar(" + machine + ", " + bar + ") at " + tempo,
                                x.placeAtBar(machine, bar));
                    }
                }
            }
        }
    }

    // ---- promises 15 and 16

    private static void meetings() {
        promise = 15;
        line("Returns the first tick of the night at which two wagons meet, -1 if there is none.",
                BoundaryTest::meetingsFromZeroToTheEnd);
        promise = 16;
        line("Returns the two wagons that meet then: 10 times the lower one, plus the higher one, of several the least;"
                + " -1 if none meet.", BoundaryTest::meetersAreTheLeastPair);
    }

    /** Two wagons, the one coming to the other at the last of so many bars, and meeting it so many ticks later. */
    private static OperaMachines meetingIn(int bars, int ticks, int tempo, int later) {
        OperaMachines x = scored(bars, ticks, tempo);
        x.wagon(0, later, 1, 1);
        x.cue(0, bars - 1, 200, 0);
        return x;
    }

    private static void meetingsFromZeroToTheEnd() {
        due(-1, "meeting() in an empty object", new OperaMachines().meeting());
        due(-1, "meeting() of one wagon", Stages.oneWagon().meeting());
        due(0, "meeting() at first", meetingIn(1, 1, 100, 0).meeting());
        due(1, "meeting() at the end of the shortest night", meetingIn(1, 1, 200, 1).meeting());
        due(-1, "meeting() a tick behind it", meetingIn(1, 1, 200, 2).meeting());
        due(320, "meeting() at the end", meetingIn(16, 20, 100, 20).meeting());
        due(-1, "meeting() a tick behind the end", meetingIn(16, 20, 100, 21).meeting());
        due(2320 + 79, "meeting() a tick before the latest", meetingIn(30, 40, 50, 79).meeting());
        due(2400, "meeting() at the latest", meetingIn(30, 40, 50, 80).meeting());
        due(-1, "meeting() a tick behind the latest", meetingIn(30, 40, 50, 81).meeting());
        OperaMachines x = meetingIn(16, 20, 100, 20);
        x.cue(0, 2, 30, 0);
        due(60, "meeting() of several the first", x.meeting());
        x.wagon(0, 20, 1, 1);
        due(0, "meeting() from first on", x.meeting());
    }

    private static void meetersAreTheLeastPair() {
        due(-1, "meeters() in an empty object", new OperaMachines().meeters());
        due(-1, "meeters() of one wagon", Stages.oneWagon().meeters());
        due(-1, "meeters() a tick behind the end", meetingIn(16, 20, 100, 21).meeters());
        due(1, "meeters() at the end", meetingIn(16, 20, 100, 20).meeters());
        for (int lower = 0; lower < 6; lower++) {
            for (int higher = lower + 1; higher < 6; higher++) {
                OperaMachines x = new OperaMachines();
                for (int i = 0; i < 6; i++) {
                    x.wagon(1, i == higher ? 30 * lower : 30 * i, 2, 1);
                }
                due(10 * lower + higher, "meeters() " + lower + " and " + higher, x.meeters());
            }
        }
        int[][] places = {{0, 0, 0, 0, 0, 0, 1}, {0, 50, 99, 50, 99, 0, 5}, {0, 50, 99, 150, 99, 50, 15},
            {0, 50, 99, 50, 99, 150, 13}, {0, 50, 100, 150, 200, 200, 45}};
        for (int[] row : places) {
            OperaMachines x = new OperaMachines();
            for (int i = 0; i < 6; i++) {
                x.wagon(1, row[i], 2, 1);
            }
            due(row[6], "meeters() of several pairs", x.meeters());
        }
        theFirstMeetingCountsNotTheLeastPair();
    }

    private static void theFirstMeetingCountsNotTheLeastPair() {
        OperaMachines x = new OperaMachines();
        x.wagon(2, 0, 1, 1);
        x.wagon(2, 12, 1, 1);
        x.wagon(1, 0, 1, 1);
        x.wagon(1, 11, 1, 1);
        x.cue(0, 0, 200, 0);
        x.cue(2, 0, 200, 0);
        due(11, "meeting()", x.meeting());
        due(23, "meeters()", x.meeters());
        x.strikeOut(1);
        due(12, "meeting() without the other", x.meeting());
        due(1, "meeters() without the other", x.meeters());
    }

    // ---- promises 17 to 20

    private static void work() {
        promise = 17;
        line("Returns who works on a cue tonight, -1 if nobody does.", BoundaryTest::whoWorks);
        line("Throws `IndexOutOfBoundsException` if there is no such cue, or it is struck out",
                () -> cueNumbers("worker", (x, v) -> x.worker(v)));
        promise = 18;
        line("Returns how many ticks a cue is worked on, 0 if it does not take effect.",
                BoundaryTest::takesFromZeroTo200);
        line("Throws `IndexOutOfBoundsException` if there is no such cue, or it is struck out",
                () -> cueNumbers("takes", (x, v) -> x.takes(v)));
        promise = 19;
        line("Returns how many clashes a worker has.", BoundaryTest::clashesFromZeroTo23);
        line("- `worker`: 0 to 5", () -> workerNumbers("clashes", (x, v) -> x.clashes(v)));
        line("Throws `IllegalArgumentException` if worker is out of range", () -> refusedArgument("clashes",
                Stages::fullOfCues, (x, v) -> x.clashes(v), -1, 6, Integer.MIN_VALUE, Integer.MAX_VALUE));
        promise = 20;
        line("Returns the overtime of a worker.", BoundaryTest::overtimeFromZeroTo2400);
        line("- `worker`: 0 to 5", () -> workerNumbers("overtime", (x, v) -> x.overtime(v)));
        line("Throws `IllegalArgumentException` if worker is out of range", () -> refusedArgument("overtime",
                Stages::fullOfCues, (x, v) -> x.overtime(v), -1, 6, Integer.MIN_VALUE, Integer.MAX_VALUE));
    }

    private static void whoWorks() {
        OperaMachines x = Stages.oneWagon();
        for (int cue = 0; cue < 24; cue++) {
            x.cue(0, cue % 16, 1, cue % 6);
        }
        x.strike(0, true);
        x.strike(5, true);
        x.substitute(5, 1);
        for (int cue = 0; cue < 24; cue++) {
            due(cue % 6 == 0 ? -1 : cue % 6 == 5 ? 1 : cue % 6, "worker(" + cue + ")", x.worker(cue));
        }
    }

    private static void takesFromZeroTo200() {
        OperaMachines x = scored(30, 40, 50);
        x.cue(0, 0, 0, 0);
        due(0, "takes at the target", x.takes(0));
        x.cue(0, 0, 1, 0);
        due(1, "takes of a step", x.takes(1));
        due(0, "takes of one that does not take effect", x.takes(0));
        x.cue(0, 0, 200, 0);
        due(200, "takes of the longest way", x.takes(2));
        due(0, "takes of one that does not take effect any more", x.takes(1));
        x.strikeOut(2);
        due(1, "takes of one that does again", x.takes(1));
        OperaMachines y = Stages.oneTurntable(0, 1);
        y.cue(0, 0, 180, 0);
        due(180, "takes of half a turn", y.takes(0));
        y.setScore(1, 1);
        due(1, "takes in a night of one tick", y.takes(0));
    }

    private static void clashesFromZeroTo23() {
        OperaMachines x = Stages.apart();
        for (int cue = 0; cue < 24; cue++) {
            due(Math.max(0, cue - 1), "clashes of " + cue + " cues", x.clashes(5));
            x.cue(cue % 6, cue / 6, 100 + 50 * (cue / 6 % 2), 5);
        }
        due(23, "clashes of 24 cues", x.clashes(5));
        due(0, "clashes of another", x.clashes(4));
        x.setRules(0, 0);
        due(20, "clashes without rest, each bar cutting the work before it off", x.clashes(5));
    }

    private static void overtimeFromZeroTo2400() {
        OperaMachines x = new OperaMachines();
        x.setScore(30, 40);
        x.setTempo(50);
        x.wagon(0, 0, 1, 1);
        x.wagon(1, 0, 1, 1);
        due(0, "overtime without work", x.overtime(4));
        // Work of 200 ticks each 160 ticks, by turns, there and back, leaves no tick of the night out.
        for (int i = 0; i < 15; i++) {
            x.cue(i % 2, 2 * i, i / 2 % 2 == 0 ? 200 : 0, 4);
        }
        due(2000, "overtime at first", x.overtime(4));
        x.setRules(5, 0);
        due(2400, "overtime of the whole longest night", x.overtime(4));
        x.setRules(5, 1);
        due(2399, "overtime but for the first tick", x.overtime(4));
        x.setRules(5, 2399);
        due(1, "overtime of the last tick", x.overtime(4));
        x.setRules(5, 2400);
        due(0, "overtime with the greatest limit", x.overtime(4));
    }

    // ---- promises 21 and 22

    private static void nights() {
        promise = 21;
        line("Tells whether the night is fine.", BoundaryTest::eachOfTheThreeMakesANightNotFine);
        promise = 22;
        line("Returns the greatest tempo, of 50, 60, and so on to 200, with which the night would be fine, -1 if there"
                + " is none.", BoundaryTest::fastestOfEachTempo);
    }

    private static void eachOfTheThreeMakesANightNotFine() {
        due(true, "isFine() of an empty object", new OperaMachines().isFine());
        due(true, "isFine()", Stages.busy().isFine());
        OperaMachines meeting = Stages.busy();
        meeting.wagon(0, 60, 1, 1);
        due(false, "isFine() with a meeting alone", meeting.isFine());
        OperaMachines clash = Stages.busy();
        clash.setRules(8, 2400);
        due(false, "isFine() with a clash alone", clash.isFine());
        OperaMachines nobody = Stages.busy();
        nobody.strike(2, true);
        due(false, "isFine() with nobody at work alone", nobody.isFine());
        nobody.strike(2, false);
        due(true, "isFine() with all at work", nobody.isFine());
    }

    /** One tick of work at first and one at bar 1, so that a night is fine with bars of more ticks than the rest. */
    private static OperaMachines fineWithBarsOf(int ticks) {
        OperaMachines x = new OperaMachines();
        for (int track = 0; track < 3; track++) {
            x.wagon(track, 0, 1, 1);
        }
        x.setScore(16, 40);
        x.cue(0, 0, 1, 0);
        x.cue(1, 1, 1, 0);
        x.setRules(ticks - 1, 0);
        return x;
    }

    private static void fastestOfEachTempo() {
        for (int tempo = 50; tempo <= 200; tempo += 10) {
            due(tempo, "fastest()", fineWithBarsOf(4000 / tempo).fastest());
        }
        due(-1, "fastest() where 50 is too fast", fineWithBarsOf(81).fastest());
        due(50, "fastest() where 55 would do", fineWithBarsOf(4000 / 55).fastest());
        due(200, "fastest() where 200 is slow enough by far", fineWithBarsOf(2).fastest());
        OperaMachines x = fineWithBarsOf(44);
        x.setTempo(200);
        due(false, "isFine() at 200", x.isFine());
        due(90, "fastest() at 200", x.fastest());
        due(200, "the tempo as it was", x.setTempo(50));
        due(true, "isFine() at 50", x.isFine());
        // In bars of 46 and more the wagon comes to the other, which only makes slower tempos worse.
        x.wagon(2, 45, 1, 1);
        x.cue(2, 15, 45, 1);
        due(false, "isFine() at 50 with a meeting", x.isFine());
        due(90, "fastest() with it", x.fastest());
        x.setRules(44, 0);
        due(-1, "fastest() with no tempo left", x.fastest());
    }

    public static void main(String[] args) {
        newObject();
        wagons();
        turntables();
        scores();
        cues();
        strikingOut();
        tempos();
        rules();
        strikes();
        substitutes();
        barsAndEnds();
        places();
        placesAtBars();
        meetings();
        work();
        nights();
        Tries.checkNoPromiseIsLeftOut();
        Tries.end("BoundaryTest");
    }
}

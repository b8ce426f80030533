/** The sentences of "What it is" and "Terms" that name a boundary case, each with a test of its own. */
public final class TermsTest {
    private static void due(Object want, String what, Object got) {
        Tries.due(want, what, got);
    }

    private static void terms(String sentence, Runnable test) {
        Tries.sentence("Terms", sentence, test);
    }

    private static void theLastOfThe512CallsAnswers() {
        OperaMachines x = Stages.fullOfWagons();
        for (int cue = 0; cue < 24; cue++) {
            x.cue(5, 15, 0, 0);
        }
        for (int call = 30; call < 511; call++) {
            x.isFine();
        }
        due(180, "the 512th call, place(5, 320)", x.place(5, 320));
        OperaMachines y = new OperaMachines();
        for (int call = 0; call < 511; call++) {
            due(Tries.INDEX, "strikeOut(0)", Tries.thrown(() -> y.strikeOut(0)));
        }
        due(0, "the 512th call, wagon(..)", y.wagon(0, 0, 1, 1));
    }

    private static void ticksBeginAtZero() {
        due(7, "place(0, 0)", Stages.oneWagon(7, 1).place(0, 0));
        Tries.refused(Tries.ARGUMENT, "place(0, -1)", Stages::oneWagon, x -> x.place(0, -1));
    }

    private static void sixteenBarsOfTwentyTicksAtFirst() {
        OperaMachines x = Stages.oneWagon();
        due(20, "bar()", x.bar());
        due(320, "end()", x.end());
        due(0, "a cue in bar 0", x.cue(0, 0, 5, 0));
        due(1, "a cue in bar 15", x.cue(0, 15, 9, 0));
        due(5, "placeAtBar(0, 15)", x.placeAtBar(0, 15));
        due(9, "placeAtBar(0, 16)", x.placeAtBar(0, 16));
        Tries.refused(Tries.ARGUMENT, "a cue in bar 16", Stages::oneWagon, o -> o.cue(0, 16, 5, 0));
        Tries.refused(Tries.ARGUMENT, "a cue in bar -1", Stages::oneWagon, o -> o.cue(0, -1, 5, 0));
    }

    private static void tempoOfAHundredAtFirst() {
        for (int ticks = 1; ticks <= 40; ticks++) {
            OperaMachines x = new OperaMachines();
            x.setScore(16, ticks);
            due(ticks, "bar() as it is written", x.bar());
            due(100, "the first tempo", x.setTempo(100));
        }
    }

    private static void barsAreRoundedDownToAtLeastOneTick() {
        int[][] hand = {{20, 150, 13}, {20, 199, 10}, {20, 200, 10}, {20, 99, 20}, {20, 101, 19}, {40, 50, 80},
            {40, 200, 20}, {3, 200, 1}, {2, 200, 1}, {1, 200, 1}, {1, 101, 1}, {1, 100, 1}, {1, 51, 1}, {1, 50, 2}};
        for (int[] row : hand) {
            OperaMachines x = new OperaMachines();
            x.setScore(30, row[0]);
            x.setTempo(row[1]);
            due(row[2], "bar() of " + row[0] + " ticks at " + row[1], x.bar());
            due(30 * row[2], "end() then", x.end());
        }
        for (int ticks = 1; ticks <= 40; ticks++) {
            OperaMachines x = new OperaMachines();
            x.setScore(1, ticks);
            for (int tempo = 50; tempo <= 200; tempo++) {
                x.setTempo(tempo);
                int bar = x.bar();
                boolean least = bar == 1 && 2 * tempo > 100 * ticks;
                boolean rounded = bar * tempo <= 100 * ticks && (bar + 1) * tempo > 100 * ticks;
                due(true, "bar() of " + ticks + " ticks at " + tempo + ", " + bar + ",", least || rounded);
            }
        }
    }

    private static void eachBarBeginsAtItsTickAndTheLastOneEndsTheNight() {
        for (int bar = 0; bar < 16; bar++) {
            OperaMachines x = Stages.oneWagon();
            x.setTempo(150);
            x.cue(0, bar, 200, 0);
            due(0, "place at tick " + 13 * bar, x.place(0, 13 * bar));
            due(1, "place a tick on", x.place(0, 13 * bar + 1));
            due(0, "placeAtBar(0, " + bar + ")", x.placeAtBar(0, bar));
            due(13, "placeAtBar a bar on", x.placeAtBar(0, bar + 1));
            due(208, "end()", x.end());
            due(x.placeAtBar(0, 16), "place at the end", x.place(0, 208));
            due(Tries.ARGUMENT, "place behind the end", Tries.thrown(() -> x.place(0, 209)));
        }
    }

    private static void machinesAreNumberedFromZeroAtMostSix() {
        OperaMachines x = new OperaMachines();
        for (int i = 0; i < 6; i += 2) {
            due(i, "a wagon's number", x.wagon(0, 10 * i, 1, 1));
            due(i + 1, "a turntable's number", x.turntable(10 * i, 1));
        }
        for (int i = 0; i < 6; i++) {
            due(i % 2 == 0 ? 10 * i : 10 * i - 10, "place of machine " + i, x.place(i, 0));
        }
        Tries.refused(Tries.STATE, "a seventh wagon", Stages::fullOfWagons, o -> o.wagon(0, 0, 1, 1));
        Tries.refused(Tries.STATE, "a turntable after six wagons", Stages::fullOfWagons, o -> o.turntable(0, 1));
        Tries.refused(Tries.STATE, "a seventh turntable", Stages::fullOfTurntables, o -> o.turntable(0, 1));
        Tries.refused(Tries.STATE, "a wagon after six turntables", Stages::fullOfTurntables, o -> o.wagon(0, 0, 1, 1));
    }

    private static void wagonsOfTheLeastAndOfTheMost() {
        OperaMachines x = new OperaMachines();
        x.setScore(30, 20);
        x.wagon(0, 0, 1, 1);
        x.wagon(2, 200, 20, 10);
        x.cue(0, 0, 200, 0);
        x.cue(1, 0, 0, 1);
        due(0, "the least place", x.place(0, 0));
        due(200, "the most", x.place(1, 0));
        due(1, "place at the least speed", x.place(0, 1));
        due(190, "place at the greatest speed", x.place(1, 1));
        due(200, "takes at the least speed", x.takes(0));
        due(20, "takes at the greatest speed", x.takes(1));
        due(-1, "meeting() on tracks 0 and 2", x.meeting());
        x.wagon(2, 180, 20, 1);
        due(1, "meeting() on track 2", x.meeting());
    }

    private static void turntablesOfTheLeastAndOfTheMost() {
        for (int angle = 0; angle < 360; angle++) {
            OperaMachines x = Stages.oneTurntable(angle, 1);
            due(angle, "place at angle " + angle, x.place(0, 0));
            due(angle, "place at the end", x.placeAtBar(0, 16));
        }
        OperaMachines x = Stages.oneTurntable(359, 10);
        x.cue(0, 0, 11, 0);
        due(9, "place of the fastest", x.place(0, 1));
        OperaMachines y = Stages.oneTurntable(0, 1);
        y.cue(0, 0, 350, 0);
        due(359, "place of the slowest", y.place(0, 1));
    }

    private static void eachIsAtItsFirstPlaceAtTickZero() {
        OperaMachines x = Stages.apart();
        for (int machine = 0; machine < 6; machine++) {
            x.cue(machine, 0, 100, machine);
        }
        for (int machine = 0; machine < 6; machine++) {
            due(0, "place at tick 0", x.place(machine, 0));
            due(0, "place at bar 0", x.placeAtBar(machine, 0));
            due(100, "place at the end", x.placeAtBar(machine, 16));
            due(0, "place at tick 0 after other questions", x.place(machine, 0));
        }
    }

    private static void cuesAreNumberedAsTheyAreWrittenAtMost24Ever() {
        OperaMachines x = Stages.oneWagon();
        for (int i = 0; i < 24; i++) {
            due(i, "the number of the cue in bar " + (23 - i) % 16, x.cue(0, (23 - i) % 16, 0, 0));
        }
        due(7, "the bar of cue 0", x.strikeOut(0));
        due(0, "the bar of cue 23", x.strikeOut(23));
        Tries.refused(Tries.STATE, "a 25th cue", Stages::fullOfCues, o -> o.cue(0, 0, 0, 0));
        Tries.refused(Tries.STATE, "a 25th, one struck out", Stages::fullWithOneStruck, o -> o.cue(0, 0, 0, 0));
        Tries.refused(Tries.STATE, "a 25th, all struck out", Stages::fullWithAllStruck, o -> o.cue(0, 0, 0, 0));
    }

    private static void cuesMayBeStruckOut() {
        for (int out : new int[] {0, 11, 23}) {
            OperaMachines x = Stages.oneWagon();
            for (int cue = 0; cue < 24; cue++) {
                x.cue(0, 15, 1 + cue % 2, 0);
            }
            due(15, "the bar of the cue struck out", x.strikeOut(out));
            for (int cue = 0; cue < 24; cue++) {
                int asked = cue;
                boolean there = !Tries.INDEX.equals(Tries.thrown(() -> x.worker(asked)));
                due(cue != out, "cue " + cue + " there without " + out, there);
            }
        }
        OperaMachines y = Stages.oneWagon();
        y.cue(0, 0, 5, 0);
        y.strikeOut(0);
        due(0, "place without the only cue", y.placeAtBar(0, 16));
        due(1, "the next number", y.cue(0, 0, 5, 0));
    }

    private static void aCueTakesEffectWhateverTheMachineDidBefore() {
        OperaMachines x = Stages.oneWagon(100, 1);
        x.cue(0, 0, 200, 0);
        x.cue(0, 1, 0, 0);
        int[][] wagon = {{0, 100}, {19, 119}, {20, 120}, {21, 119}, {40, 100}, {139, 1}, {140, 0}, {141, 0}, {320, 0}};
        for (int[] row : wagon) {
            due(row[1], "place of the wagon at " + row[0], x.place(0, row[0]));
        }
        OperaMachines y = Stages.oneTurntable(0, 1);
        y.cue(0, 0, 170, 0);
        y.cue(0, 1, 350, 0);
        int[][] turntable = {{20, 20}, {21, 19}, {40, 0}, {41, 359}, {50, 350}, {51, 350}};
        for (int[] row : turntable) {
            due(row[1], "place of the turntable at " + row[0], y.place(0, row[0]));
        }
    }

    private static void ofABarsCuesTheHighestTakesEffect() {
        OperaMachines x = new OperaMachines();
        x.wagon(0, 100, 1, 10);
        x.wagon(1, 0, 1, 10);
        x.cue(1, 3, 20, 0);
        for (int cue = 1; cue < 24; cue++) {
            x.cue(0, 3, cue, 0);
        }
        for (int highest = 23; highest >= 1; highest--) {
            due(highest, "place by cue " + highest, x.placeAtBar(0, 16));
            due(true, "cue " + highest + " takes some time: it", x.takes(highest) > 0);
            due(0, "takes of the cue below it", highest == 1 ? 0 : x.takes(highest - 1));
            due(20, "place of the other machine", x.placeAtBar(1, 16));
            x.strikeOut(highest);
        }
        due(100, "place without a cue", x.placeAtBar(0, 16));
        due(2, "takes of the other machine's cue", x.takes(0));
    }

    private static void aMachineGoesAsFarAsItsSpeedButNotBeyond() {
        for (int speed = 1; speed <= 10; speed++) {
            for (int distance = -31; distance <= 31; distance++) {
                OperaMachines wagon = Stages.oneWagon(100, speed);
                wagon.cue(0, 0, 100 + distance, 0);
                OperaMachines turntable = Stages.oneTurntable(10, speed);
                turntable.cue(0, 0, (370 + distance) % 360, 0);
                for (int tick = 0; tick <= 4; tick++) {
                    int gone = Math.max(-speed * tick, Math.min(speed * tick, distance));
                    due(100 + gone, "place of a wagon of speed " + speed, wagon.place(0, tick));
                    due((370 + gone) % 360, "place of a turntable of speed " + speed, turntable.place(0, tick));
                }
            }
        }
        for (int first = 0; first <= 200; first += 197) {
            OperaMachines x = Stages.oneWagon(Math.abs(first - 3), 10);
            x.cue(0, 0, first == 0 ? 0 : 200, 0);
            due(first == 0 ? 0 : 200, "place at the track's end", x.place(0, 1));
        }
    }

    private static void aTurntableGoesTheShorterWayOfBothAlikeUpwards() {
        for (int from = 0; from < 360; from++) {
            for (int to = 0; to < 360; to++) {
                int ups = (to - from + 360) % 360;
                int step = ups == 0 ? 0 : ups <= 180 ? 1 : 359;
                OperaMachines x = Stages.oneTurntable(from, 1);
                x.cue(0, 0, to, 0);
                due((from + step) % 360, "place from " + from + " to " + to, x.place(0, 1));
                due(Math.min(ups, 360 - ups), "takes from " + from + " to " + to, x.takes(0));
            }
        }
        // Half round at a speed that does not divide it, by ticks and by bars.
        OperaMachines y = Stages.oneTurntable(270, 7);
        y.cue(0, 0, 90, 0);
        due(85, "place a tick before the target", y.place(0, 25));
        due(90, "place at the target", y.place(0, 26));
        due(50, "placeAtBar(0, 1)", y.placeAtBar(0, 1));
        due(90, "placeAtBar(0, 2)", y.placeAtBar(0, 2));
        due(26, "takes", y.takes(0));
    }

    private static void aCueMovesItsMachineFirstATickOn() {
        for (int bar = 0; bar < 16; bar++) {
            OperaMachines x = Stages.oneWagon();
            x.setScore(16, 1);
            x.cue(0, bar, 9, 0);
            for (int tick = 0; tick <= 16; tick++) {
                int due = Math.min(9, Math.max(0, tick - bar));
                due(due, "place at " + tick + " with a cue at " + bar, x.place(0, tick));
                due(due, "placeAtBar at " + tick + " with a cue at " + bar, x.placeAtBar(0, tick));
            }
        }
    }

    private static void wagonsMeetWhenLessThanHalfTheirWidthsApart() {
        for (int one = 1; one <= 20; one++) {
            for (int other = 1; other <= 20; other++) {
                int sum = one + other;
                for (int apart = Math.max(0, sum / 2 - 2); apart <= sum / 2 + 2; apart++) {
                    String what = "meeting() " + apart + " apart, " + one + " and " + other + " wide";
                    int due = 2 * apart < sum ? 0 : -1;
                    due(due, what, twoWagons(0, 0, 100, one, 100 + apart, other).meeting());
                    due(due, what, twoWagons(2, 2, 100, one, 100 - apart, other).meeting());
                }
            }
        }
    }

    private static OperaMachines twoWagons(int track, int otherTrack, int place, int width, int otherPlace, int other) {
        OperaMachines x = new OperaMachines();
        x.wagon(track, place, width, 1);
        x.wagon(otherTrack, otherPlace, other, 1);
        return x;
    }

    private static void onlyWagonsOnOneTrackMeet() {
        for (int track = 0; track < 3; track++) {
            for (int other = 0; other < 3; other++) {
                OperaMachines x = twoWagons(track, other, 50, 20, 50, 20);
                due(track == other ? 0 : -1, "meeting() on tracks " + track + " and " + other, x.meeting());
                due(track == other ? 1 : -1, "meeters() then", x.meeters());
            }
            OperaMachines y = new OperaMachines();
            y.turntable(50, 1);
            y.wagon(track, 50, 20, 1);
            y.turntable(50, 1);
            due(-1, "meeting() of a wagon and turntables", y.meeting());
        }
    }

    private static OperaMachines going(int distance, int speed, int bar) {
        OperaMachines x = Stages.oneWagon(0, speed);
        x.cue(0, bar, distance, 0);
        return x;
    }

    private static void workEndsAtTheTarget() {
        for (int speed = 1; speed <= 10; speed++) {
            for (int distance = 0; distance <= 200; distance++) {
                OperaMachines x = going(distance, speed, 0);
                int takes = x.takes(0);
                due((distance + speed - 1) / speed, "takes of " + distance + " at " + speed, takes);
                due(distance, "place at the work's end", x.place(0, takes));
                due(true, "a tick before it is not there yet: it",
                        takes == 0 || x.place(0, takes - 1) < distance);
            }
        }
    }

    private static void workEndsWithAnotherCue() {
        int[][] rows = {{18, 18}, {19, 19}, {20, 20}, {21, 20}, {22, 20}, {200, 20}};
        for (int[] row : rows) {
            OperaMachines x = going(row[0], 1, 3);
            due(row[0], "takes of " + row[0] + " alone", x.takes(0));
            x.wagon(1, 0, 1, 1);
            x.cue(1, 4, 5, 0);
            due(row[0], "takes with another machine's cue", x.takes(0));
            x.cue(0, 4, row[0], 0);
            due(row[1], "takes with the same target told again", x.takes(0));
            due(row[0] - row[1], "takes of that one", x.takes(2));
            x.cue(0, 4, 0, 0);
            due(row[1], "takes with a cue back", x.takes(0));
            due(0, "takes of the outranked one", x.takes(2));
            x.strikeOut(2);
            due(row[1], "takes with the outranked one struck out", x.takes(0));
            x.strikeOut(3);
            due(row[0], "takes with both struck out", x.takes(0));
        }
    }

    private static void workEndsWithTheNight() {
        int[][] rows = {{19, 19}, {20, 20}, {21, 20}, {200, 20}};
        for (int[] row : rows) {
            due(row[1], "takes of " + row[0] + " in the last bar", going(row[0], 1, 15).takes(0));
            due(Math.min(row[0], 40), "takes of " + row[0] + " in the last bar but one", going(row[0], 1, 14).takes(0));
        }
        OperaMachines x = going(200, 1, 0);
        x.setScore(1, 1);
        due(1, "takes in the shortest night", x.takes(0));
        x.setScore(30, 40);
        x.setTempo(50);
        due(200, "takes in the longest night", x.takes(0));
    }

    private static void workAtTheTargetTakesNoTime() {
        OperaMachines x = going(20, 1, 0);
        x.cue(0, 1, 20, 0);
        due(20, "takes until the next bar", x.takes(0));
        due(0, "takes at the target since just then", x.takes(1));
        OperaMachines y = Stages.oneTurntable(359, 1);
        y.cue(0, 0, 359, 0);
        due(0, "takes of a turntable at the target", y.takes(0));
        y.cue(0, 1, 0, 0);
        due(1, "takes of a turntable a step on", y.takes(1));
        OperaMachines z = Stages.oneWagon(0, 3);
        z.cue(0, 0, 100, 0);
        z.cue(0, 1, 60, 0);
        due(20, "takes until a cue that finds its machine at the target", z.takes(0));
        due(0, "takes of that cue", z.takes(1));
        due(60, "place, where it stops", z.placeAtBar(0, 16));
    }

    private static void workersAreZeroToFive() {
        Tries.range(Tries.ARGUMENT, "cue's worker", 0, 5, Stages::oneWagon, (x, v) -> x.cue(0, 0, 1, v));
        for (int worker = 0; worker < 6; worker++) {
            OperaMachines x = Stages.oneWagon();
            x.cue(0, 0, 1, worker);
            x.setRules(5, 0);
            due(worker, "worker(0)", x.worker(0));
            for (int asked = 0; asked < 6; asked++) {
                due(asked == worker ? 1 : 0, "overtime of " + asked + " for " + worker, x.overtime(asked));
            }
        }
    }

    private static OperaMachines allHaveCues() {
        OperaMachines x = Stages.apart();
        for (int worker = 0; worker < 6; worker++) {
            x.cue(worker, 0, 10, worker);
        }
        return x;
    }

    private static void substitutesWorkAsLongAsTheyStrike() {
        for (int way = -1; way <= 1; way += 2) {
            OperaMachines x = allHaveCues();
            int first = way == 1 ? 0 : 5;
            for (int i = 0; i < 5; i++) {
                x.substitute(first + way * i, first + way * (i + 1));
            }
            due(first, "worker of one who has a substitute, but does not strike", x.worker(first));
            for (int strikers = 1; strikers <= 5; strikers++) {
                x.strike(first + way * (strikers - 1), true);
                for (int i = 0; i < 6; i++) {
                    int due = first + way * Math.max(i, strikers);
                    due(due, "worker of cue " + (first + way * i) + ", " + strikers + " striking",
                            x.worker(first + way * i));
                }
            }
            x.strike(first + way * 2, false);
            due(first + way * 2, "worker behind two, four striking", x.worker(first));
            due(first + way * 5, "worker behind two, two striking", x.worker(first + way * 3));
        }
    }

    private static void whereItGoesRoundNobodyWorks() {
        for (int round = 1; round <= 6; round++) {
            OperaMachines x = allHaveCues();
            for (int worker = 0; worker < 6; worker++) {
                x.substitute(worker, (worker + 1) % round);
                x.strike(worker, true);
            }
            for (int cue = 0; cue < 6; cue++) {
                due(-1, "worker(" + cue + ") in a round of " + round, x.worker(cue));
            }
            x.strike(round - 1, false);
            due(round - 1, "worker(0) in a round of " + round + " with one who works", x.worker(0));
        }
        // A way that leads into a round, and does not come back to where it began.
        OperaMachines y = allHaveCues();
        for (int worker = 0; worker < 6; worker++) {
            y.substitute(worker, Math.min(5, worker + 1));
            y.strike(worker, true);
        }
        due(-1, "worker(0) where the last is its own substitute", y.worker(0));
        y.substitute(5, 4);
        due(-1, "worker(0) where the last two are each other's", y.worker(0));
    }

    private static void withoutASubstituteNobodyWorks() {
        for (int last = 0; last < 6; last++) {
            OperaMachines x = allHaveCues();
            for (int worker = 0; worker <= last; worker++) {
                x.strike(worker, true);
                x.substitute(worker, worker < last ? worker + 1 : -1);
            }
            due(-1, "worker(0) without a substitute of " + last, x.worker(0));
            due(last == 5 ? -1 : 5, "worker(5)", x.worker(5));
        }
    }

    private static void withNobodyTheMachineMovesAllTheSame() {
        OperaMachines x = allHaveCues();
        x.strike(0, true);
        due(-1, "worker(0)", x.worker(0));
        due(10, "place of its machine", x.place(0, 10));
        due(10, "placeAtBar of its machine", x.placeAtBar(0, 1));
        due(10, "takes of it", x.takes(0));
        due(false, "isFine()", x.isFine());
        OperaMachines y = twoWagons(0, 0, 0, 1, 9, 2);
        y.cue(0, 0, 9, 0);
        y.strike(0, true);
        due(8, "meeting() of a wagon that nobody works on", y.meeting());
        due(1, "meeters() then", y.meeters());
    }

    /** Two wagons: the first works from tick 0 on for so many ticks, the second begins at that bar. */
    private static OperaMachines inTurn(int ticks, int bar) {
        OperaMachines x = new OperaMachines();
        x.wagon(0, 0, 1, 1);
        x.wagon(1, 0, 1, 1);
        x.cue(0, 0, ticks, 3);
        x.cue(1, bar, 5, 3);
        return x;
    }

    private static void clashIfLessThanTheRestBehindTheEnd() {
        int[][] atFirst = {{1, 0}, {14, 0}, {15, 0}, {16, 1}, {19, 1}, {20, 1}, {21, 1}, {200, 1}};
        for (int[] row : atFirst) {
            due(row[1], "clashes at first, " + (20 - row[0]) + " ticks between", inTurn(row[0], 1).clashes(3));
        }
        for (int rest = 0; rest <= 100; rest++) {
            for (int between = Math.max(0, rest - 1); between <= rest + 1; between++) {
                OperaMachines x = inTurn(120 - between, 6);
                x.setRules(rest, 0);
                due(between < rest ? 1 : 0, "clashes with rest " + rest + ", " + between + " between", x.clashes(3));
            }
        }
    }

    private static void clashIfBeforeTheEnd() {
        int[][] withoutRest = {{19, 0}, {20, 0}, {21, 1}, {22, 1}, {200, 1}};
        for (int[] row : withoutRest) {
            OperaMachines x = inTurn(row[0], 1);
            x.setRules(0, 0);
            due(row[1], "clashes without rest, the first one taking " + row[0], x.clashes(3));
        }
        OperaMachines y = inTurn(5, 0);
        y.setRules(0, 0);
        due(1, "clashes of the same beginning", y.clashes(3));
    }

    private static void noClashWithACueThatTakesNoTime() {
        OperaMachines x = inTurn(20, 1);
        x.strikeOut(1);
        x.cue(1, 1, 0, 3);
        due(0, "takes of the second", x.takes(2));
        due(0, "clashes with a second that takes no time", x.clashes(3));
        x.cue(1, 1, 1, 3);
        due(1, "clashes with a second that takes a tick", x.clashes(3));
        x.cue(0, 0, 0, 3);
        due(0, "clashes with a first that takes no time", x.clashes(3));
        OperaMachines y = inTurn(20, 2);
        y.wagon(2, 0, 1, 1);
        y.setRules(21, 0);
        y.cue(2, 1, 0, 3);
        due(1, "clashes with one between that takes no time", y.clashes(3));
    }

    private static void clashesAreOfNeighboursInTheOrderOfBeginnings() {
        OperaMachines x = Stages.apart();
        x.setRules(0, 0);
        x.cue(2, 3, 5, 3);
        x.cue(1, 1, 5, 3);
        x.cue(0, 0, 100, 3);
        due(1, "clashes of a long one with the next alone", x.clashes(3));
        x.cue(3, 2, 5, 4);
        due(1, "clashes with another worker's cue between", x.clashes(3));
        due(0, "clashes of that other worker", x.clashes(4));
        x.cue(4, 2, 5, 3);
        due(1, "clashes with one more between", x.clashes(3));
        x.strikeOut(2);
        due(0, "clashes without the long one", x.clashes(3));
    }

    private static void clashesOfTheSameBeginningGoByNumbers() {
        int[][] rows = {{60, 5, 1}, {5, 60, 2}};
        for (int[] row : rows) {
            OperaMachines x = Stages.apart();
            x.setRules(0, 0);
            x.cue(2, 2, 5, 3);
            x.cue(1, 1, row[0], 3);
            x.cue(0, 1, row[1], 3);
            due(row[2], "clashes, taking " + row[0] + " and then " + row[1], x.clashes(3));
        }
    }

    private static void overtimeCountsFromTheLimitOn() {
        int[][] atFirst = {{399, 0}, {400, 0}, {401, 1}, {402, 2}};
        for (int[] row : atFirst) {
            OperaMachines x = Stages.oneWagon();
            x.setScore(30, 20);
            x.cue(0, 15, row[0] - 300, 2);
            due(row[1], "overtime of work to tick " + row[0], x.overtime(2));
        }
        OperaMachines y = Stages.oneWagon();
        y.setScore(30, 40);
        y.setTempo(50);
        y.cue(0, 29, 200, 2);
        int[][] limits = {{2400, 0}, {2399, 1}, {2398, 2}, {2321, 79}, {2320, 80}, {2319, 80}, {0, 80}};
        for (int[] row : limits) {
            y.setRules(5, row[0]);
            due(row[1], "overtime of the last bar with limit " + row[0], y.overtime(2));
        }
    }

    private static void overtimeCountsEachTickOnce() {
        int[][] rows = {{0, 30, 0, 30, 30}, {0, 30, 0, 10, 30}, {0, 10, 0, 30, 30}, {0, 30, 1, 10, 30},
            {0, 30, 1, 9, 30}, {0, 30, 1, 11, 31}, {0, 20, 1, 5, 25}, {0, 19, 1, 5, 24}, {0, 21, 1, 5, 25},
            {1, 5, 0, 100, 100}};
        for (int[] row : rows) {
            OperaMachines x = Stages.apart();
            x.setRules(0, 0);
            x.cue(0, row[0], row[1], 2);
            x.cue(1, row[2], row[3], 2);
            due(row[4], "overtime of " + row[1] + " from bar " + row[0] + ", " + row[3] + " from " + row[2],
                    x.overtime(2));
            x.cue(2, 0, 3, 2);
            x.cue(3, 0, 180, 1);
            due(Math.max(row[4], 3), "overtime with a third inside", x.overtime(2));
        }
    }

    private static void aNightIsFineWithoutMeetingsFromZeroToItsEnd() {
        due(false, "isFine() with a meeting at tick 0 alone", goingAway(0).isFine());
        due(true, "isFine() with wagons just clear of one another", goingAway(1).isFine());
        for (int end = 7; end <= 9; end++) {
            OperaMachines x = new OperaMachines();
            x.setScore(1, end);
            x.wagon(1, 0, 1, 1);
            x.wagon(1, 9, 2, 1);
            x.cue(0, 0, 9, 0);
            due(end < 8, "isFine() in a night of " + end + ", with a meeting from 8 on", x.isFine());
            due(end < 8 ? -1 : 8, "meeting() then", x.meeting());
        }
    }

    /** Wagons so far apart that the one goes away at tick 1. */
    private static OperaMachines goingAway(int apart) {
        OperaMachines x = new OperaMachines();
        x.wagon(0, 50, 1, 10);
        x.wagon(0, 50 + apart, 1, 10);
        x.cue(1, 0, 90, 0);
        return x;
    }

    private static void aNightIsFineIfNoWorkerHasAClash() {
        for (int worker = 0; worker < 6; worker++) {
            OperaMachines x = Stages.apart();
            x.cue(0, 0, 15, worker);
            x.cue(1, 1, 15, worker);
            due(true, "isFine() with rest for " + worker, x.isFine());
            x.setRules(6, 400);
            due(false, "isFine() with a clash of " + worker, x.isFine());
            x.strike(worker, true);
            due(false, "isFine() with nobody at work", x.isFine());
            x.substitute(worker, (worker + 1) % 6);
            due(false, "isFine() with a clash of the substitute", x.isFine());
            x.setRules(5, 0);
            due(true, "isFine() with overtime", x.isFine());
        }
    }

    private static void aNightIsFineIfSomebodyWorksOnEachCueThatTakesTime() {
        OperaMachines x = Stages.oneWagon();
        x.strike(5, true);
        x.cue(0, 15, 0, 5);
        due(true, "isFine() with nobody on a cue that takes no time", x.isFine());
        x.cue(0, 15, 1, 5);
        due(false, "isFine() with nobody on a cue that takes a tick", x.isFine());
        x.cue(0, 15, 1, 4);
        due(true, "isFine() with that cue outranked", x.isFine());
        x.strikeOut(2);
        due(false, "isFine() with it in effect again", x.isFine());
        x.strikeOut(1);
        due(true, "isFine() with it struck out", x.isFine());
    }

    private static void whatThrowsChangesNothing() {
        Tries.refused(Tries.STATE, "setScore(7, 1)", Stages::busy, x -> Tries.setScore(x, 7, 1));
        Tries.refused(Tries.ARGUMENT, "setScore(9, 41)", Stages::busy, x -> Tries.setScore(x, 9, 41));
        Tries.refused(Tries.ARGUMENT, "setScore(31, 1)", Stages::busy, x -> Tries.setScore(x, 31, 1));
        for (int rest : new int[] {0, 6, 8, 100}) {
            Tries.refused(Tries.ARGUMENT, "setRules of a limit", Stages::busy, x -> Tries.setRules(x, rest, 2401));
        }
        for (int limit : new int[] {0, 99, 101, 2400}) {
            Tries.refused(Tries.ARGUMENT, "setRules of a rest", Stages::busy, x -> Tries.setRules(x, 101, limit));
        }
        Tries.refused(Tries.ARGUMENT, "strike(6, false)", Stages::busy, x -> x.strike(6, false));
        Tries.refused(Tries.ARGUMENT, "substitute(3, 6)", Stages::busy, x -> x.substitute(3, 6));
        Tries.refused(Tries.ARGUMENT, "cue of a worker", Stages::busy, x -> x.cue(0, 0, 50, 6));
        Tries.refused(Tries.STATE, "a 25th cue", Stages::fullOfAll, x -> x.cue(0, 0, 0, 0));
        Tries.refused(Tries.STATE, "a seventh machine", Stages::fullOfAll, x -> x.turntable(0, 1));
        Tries.refused(Tries.INDEX, "strikeOut(2) again", Stages::withoutCueTwo, x -> x.strikeOut(2));
    }

    private static void ofSeveralExceptionsItIsTheFirst() {
        Tries.refused(Tries.ARGUMENT, "wagon, both", Stages::fullOfMachines, x -> x.wagon(3, 0, 1, 1));
        Tries.refused(Tries.ARGUMENT, "turntable, both", Stages::fullOfMachines, x -> x.turntable(0, 11));
        Tries.refused(Tries.ARGUMENT, "setScore, both by ticks", Stages::busy, x -> Tries.setScore(x, 1, 41));
        Tries.refused(Tries.ARGUMENT, "setScore, both by bars", Stages::busy, x -> Tries.setScore(x, 0, 1));
        Tries.refused(Tries.INDEX, "cue, machine and bar", Stages::busy, x -> x.cue(3, 8, 0, 0));
        Tries.refused(Tries.INDEX, "cue, machine and target", Stages::busy, x -> x.cue(-1, 0, 360, 0));
        Tries.refused(Tries.INDEX, "cue, machine and worker", Stages::busy, x -> x.cue(6, 0, 0, 6));
        Tries.refused(Tries.INDEX, "cue, machine and 24 cues", Stages::fullOfCues, x -> x.cue(3, 0, 0, 0));
        Tries.refused(Tries.INDEX, "cue, all three", Stages::fullOfCues, x -> x.cue(3, 8, -1, 6));
        Tries.refused(Tries.ARGUMENT, "cue, bar and 24 cues", Stages::fullOfCues, x -> x.cue(0, 8, 0, 0));
        Tries.refused(Tries.ARGUMENT, "cue, target and 24 cues", Stages::fullOfCues, x -> x.cue(0, 0, 201, 0));
        Tries.refused(Tries.ARGUMENT, "cue, worker and 24 cues", Stages::fullOfCues, x -> x.cue(2, 0, 201, -1));
        Tries.refused(Tries.INDEX, "place, both", Stages::busy, x -> x.place(3, -1));
        Tries.refused(Tries.INDEX, "place, both behind the end", Stages::empty, x -> x.place(0, 321));
        Tries.refused(Tries.INDEX, "placeAtBar, both", Stages::busy, x -> x.placeAtBar(-1, 9));
        Tries.refused(Tries.INDEX, "placeAtBar, both before 0", Stages::empty, x -> x.placeAtBar(0, -1));
    }

    private static void timeAndMachines() {
        Tries.sentence("What it is", "An object is used for at most 512 calls after it has been made",
                TermsTest::theLastOfThe512CallsAnswers);
        terms("Time is in ticks, from 0 on.", TermsTest::ticksBeginAtZero);
        terms("The score has bars, numbered from 0, 16 at first, each of 20 ticks at first as it is written.",
                TermsTest::sixteenBarsOfTwentyTicksAtFirst);
        terms("The tempo is told in hundredths, 100 at first", TermsTest::tempoOfAHundredAtFirst);
        terms("tonight a bar has its ticks times 100, divided by the tempo, rounded down, but at least 1 tick.",
                TermsTest::barsAreRoundedDownToAtLeastOneTick);
        terms("The bar b begins at the tick b times that; the night ends with the last bar.",
                TermsTest::eachBarBeginsAtItsTickAndTheLastOneEndsTheNight);
        terms("Machines are numbered from 0, at most 6.", TermsTest::machinesAreNumberedFromZeroAtMostSix);
        terms("A wagon has a track, 0 to 2, a place, 0 to 200, a width, 1 to 20, and a speed, 1 to 10.",
                TermsTest::wagonsOfTheLeastAndOfTheMost);
        terms("A turntable has an angle, 0 to 359, and a speed; its place is its angle.",
                TermsTest::turntablesOfTheLeastAndOfTheMost);
        terms("At first (at the tick 0) each is at its first place.", TermsTest::eachIsAtItsFirstPlaceAtTickZero);
    }

    private static void cuesAndPlaces() {
        terms("Cues are numbered from 0 as they are written, at most 24 ever",
                TermsTest::cuesAreNumberedAsTheyAreWrittenAtMost24Ever);
        terms("each has a bar, a machine, a target and a worker, and may be struck out.",
                TermsTest::cuesMayBeStruckOut);
        terms("At the beginning of its bar a cue takes effect: the machine goes towards the target from then on,"
                + " whatever it did before", TermsTest::aCueTakesEffectWhateverTheMachineDidBefore);
        terms("of several cues of a bar for the same machine the one with the highest number does.",
                TermsTest::ofABarsCuesTheHighestTakesEffect);
        terms("With each tick a machine that is not at its target goes as far as its speed tells towards it,"
                + " but not beyond it", TermsTest::aMachineGoesAsFarAsItsSpeedButNotBeyond);
        terms("a turntable goes the shorter way round, of both alike upwards.",
                TermsTest::aTurntableGoesTheShorterWayOfBothAlikeUpwards);
        terms("a cue that takes effect at the tick t moves it first in the place at t and 1.",
                TermsTest::aCueMovesItsMachineFirstATickOn);
        terms("if twice how far their places are apart is less than both widths together.",
                TermsTest::wagonsMeetWhenLessThanHalfTheirWidthsApart);
        terms("Two wagons on one track meet at a tick", TermsTest::onlyWagonsOnOneTrackMeet);
    }

    private static void works() {
        terms("A cue that takes effect is worked on from the beginning of its bar until the tick at which its machine"
                + " is at the target", TermsTest::workEndsAtTheTarget);
        terms("or until another cue for the machine takes effect", TermsTest::workEndsWithAnotherCue);
        terms("or the night ends, whichever comes first", TermsTest::workEndsWithTheNight);
        terms("if the machine is at the target already, it takes no time.", TermsTest::workAtTheTargetTakesNoTime);
        terms("Workers are 0 to 5.", TermsTest::workersAreZeroToFive);
        terms("The worker of a cue tonight is the one told, unless that worker strikes: then it is the substitute of"
                + " that worker, and so on, as long as they strike", TermsTest::substitutesWorkAsLongAsTheyStrike);
        terms("if that goes round", TermsTest::whereItGoesRoundNobodyWorks);
        terms("or there is no substitute, nobody works on it", TermsTest::withoutASubstituteNobodyWorks);
        terms("(the machine moves all the same)", TermsTest::withNobodyTheMachineMovesAllTheSame);
    }

    private static void clashesAndOvertime() {
        terms("if the second begins less than the rest, 5 ticks at first, behind the end of the first one",
                TermsTest::clashIfLessThanTheRestBehindTheEnd);
        terms("or before its end.", TermsTest::clashIfBeforeTheEnd);
        terms("two cues of the worker tonight that both take some time", TermsTest::noClashWithACueThatTakesNoTime);
        terms("of which one follows the other, with none of these between, in the order of their beginnings",
                TermsTest::clashesAreOfNeighboursInTheOrderOfBeginnings);
        terms("(of the same beginning, by their numbers)", TermsTest::clashesOfTheSameBeginningGoByNumbers);
        terms("how many ticks, from the limit on, 400 at first", TermsTest::overtimeCountsFromTheLimitOn);
        terms("some cue of that worker is worked on, each tick once.", TermsTest::overtimeCountsEachTickOnce);
    }

    private static void nightsAndThrows() {
        terms("A night is fine, if no wagons meet at any tick from 0 to its end",
                TermsTest::aNightIsFineWithoutMeetingsFromZeroToItsEnd);
        terms("no worker has a clash", TermsTest::aNightIsFineIfNoWorkerHasAClash);
        terms("and somebody works on each cue that takes some time.",
                TermsTest::aNightIsFineIfSomebodyWorksOnEachCueThatTakesTime);
        terms("When a call throws, nothing has changed", TermsTest::whatThrowsChangesNothing);
        terms("of several exceptions it is the first one of the throws clause.",
                TermsTest::ofSeveralExceptionsItIsTheFirst);
    }

    public static void main(String[] args) {
        timeAndMachines();
        cuesAndPlaces();
        works();
        clashesAndOvertime();
        nightsAndThrows();
        Tries.end("TermsTest");
    }
}

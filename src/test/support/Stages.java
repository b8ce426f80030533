/** Objects in all the states that the tests by hand begin with. */
final class Stages {
    private Stages() {
    }

    static OperaMachines empty() {
        return new OperaMachines();
    }

    /** One wagon alone, 1 wide, on track 0. */
    static OperaMachines oneWagon(int place, int speed) {
        OperaMachines x = new OperaMachines();
        x.wagon(0, place, 1, speed);
        return x;
    }

    static OperaMachines oneWagon() {
        return oneWagon(0, 1);
    }

    static OperaMachines oneTurntable(int angle, int speed) {
        OperaMachines x = new OperaMachines();
        x.turntable(angle, speed);
        return x;
    }

    /** Wagons at place 0 on tracks of their own, so that they never meet, and turntables behind them. */
    static OperaMachines apart() {
        OperaMachines x = new OperaMachines();
        for (int track = 0; track < 3; track++) {
            x.wagon(track, 0, 1, 1);
        }
        for (int i = 0; i < 3; i++) {
            x.turntable(0, 1);
        }
        return x;
    }

    /** Something of everything, so that a change of any part shows in the answers. */
    static OperaMachines busy() {
        OperaMachines x = new OperaMachines();
        x.wagon(0, 10, 4, 1);
        x.wagon(0, 60, 4, 2);
        x.turntable(350, 3);
        x.setScore(8, 20);
        x.cue(0, 0, 25, 0);
        x.cue(0, 1, 10, 0);
        x.cue(1, 6, 20, 1);
        x.cue(2, 7, 170, 2);
        x.strike(3, true);
        x.substitute(3, 4);
        x.setTempo(90);
        x.setRules(7, 100);
        return x;
    }

    static OperaMachines withoutCueTwo() {
        OperaMachines x = busy();
        x.strikeOut(2);
        return x;
    }

    static OperaMachines fullOfMachines() {
        OperaMachines x = busy();
        x.wagon(1, 0, 1, 1);
        x.turntable(0, 1);
        x.wagon(2, 200, 20, 10);
        return x;
    }

    static OperaMachines fullOfWagons() {
        OperaMachines x = new OperaMachines();
        for (int i = 0; i < 6; i++) {
            x.wagon(i % 3, 40 * i, 2, 1);
        }
        return x;
    }

    static OperaMachines fullOfTurntables() {
        OperaMachines x = new OperaMachines();
        for (int i = 0; i < 6; i++) {
            x.turntable(60 * i, 1);
        }
        return x;
    }

    static OperaMachines fullOfCues() {
        OperaMachines x = busy();
        for (int i = 4; i < 24; i++) {
            x.cue(0, 3, 10, 0);
        }
        return x;
    }

    static OperaMachines fullWithOneStruck() {
        OperaMachines x = fullOfCues();
        x.strikeOut(23);
        return x;
    }

    static OperaMachines fullWithAllStruck() {
        OperaMachines x = fullOfCues();
        for (int cue = 0; cue < 24; cue++) {
            x.strikeOut(cue);
        }
        return x;
    }

    /** As many machines, cues, bars, ticks, rest and limit as there may be. */
    static OperaMachines fullOfAll() {
        OperaMachines x = new OperaMachines();
        x.setScore(30, 40);
        x.setTempo(50);
        for (int i = 0; i < 3; i++) {
            x.wagon(i, 200, 20, 10);
            x.turntable(359, 10);
        }
        for (int cue = 0; cue < 24; cue++) {
            x.cue(cue % 6, 6 + cue, 100, cue % 6);
        }
        x.setRules(100, 2400);
        return x;
    }
}

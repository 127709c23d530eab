/** The ring of ANGLES, walked step by step. */
final class Ring {
    private Ring() { }

    static int rising(int angle) {
        return angle == 23 ? 0 : angle + 1;
    }

    static int falling(int angle) {
        return angle == 0 ? 23 : angle - 1;
    }

    static int risingSteps(int from, int to) {
        int steps = 0;
        for (int angle = from; angle != to; angle = rising(angle)) {
            steps++;
        }
        return steps;
    }

    static boolean goesRising(int from, int to) {
        return risingSteps(from, to) <= risingSteps(to, from);
    }

    static int steps(int from, int to) {
        return goesRising(from, to) ? risingSteps(from, to) : risingSteps(to, from);
    }

    /** The next ANGLE by the SHORTER WAY to another one. */
    static int next(int from, int to) {
        return goesRising(from, to) ? rising(from) : falling(from);
    }
}

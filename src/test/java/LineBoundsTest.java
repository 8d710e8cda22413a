/** The boundary cases that the sections Numbers, Line and Speeds name, a test each. */
public final class LineBoundsTest {
    private static final long NO_VALUE = WebTensionLine.NO_VALUE;
    private static final Due due = new Due();

    public static void main(String[] args) {
        tensionRoundsDown();
        nominalSpeedsRoundDown();
        nominalSpeedsRoundDownOneByOne();
        amountOfRollerZeroRoundsDown();
        amountsRoundDown();
        dancerStepsRoundDown();
        theHalfOfTheTravelRoundsDown();
        trimsByKpRoundDown();
        trimsByKiRoundDown();
        trimsAreTwoDivisions();
        trimsOfLoadCellsRoundDown();
        strengthOfSplicesRoundsDown();
        steadyTensionRoundsDown();
        oneSpan();
        sixSpans();
        tensionIfTheLengthIsGreater();
        tensionOfAStretchThatRoundsToNothing();
        lengthWithADancer();
        theBaseSpeedAtFirst();
        speedOfRollerZero();
        speedsAreAtLeastZero();
        noSpeedWhileTheBaseSpeedIsZero();
        numbersBeyondAnInt();
        greatStiffnessAndSpeed();
        due.end();
    }

    /** A span of 100000 and a base speed of 5000 from the first tick on. */
    private static WebTensionLine line() {
        WebTensionLine x = new WebTensionLine();
        x.reset(100000);
        x.setSpeed(5000, 5000);
        x.loadRoll(100000000);
        return x;
    }

    /** The tension after a tick in which the material becomes 100000 less the stretch. */
    private static long tensionOf(int stiffness, int stretch) {
        WebTensionLine x = line();
        x.setWeb(stiffness, 0);
        x.setDraw(1, 200 * stretch);
        x.run(1);
        due.is("material", 100000 - stretch, x.measure(0, 1));
        return x.measure(0, 0);
    }

    private static void tensionRoundsDown() {
        due.topic("every division rounds down: K * (L - U) / U");
        due.is("tension of 1.99999", 1, tensionOf(199997, 1));
        due.is("tension of 2", 2, tensionOf(199998, 1));
        due.is("tension of 1000.99", 1000, tensionOf(999998, 100));
        due.is("tension of 1001", 1001, tensionOf(999999, 100));
    }

    private static void nominalSpeedsRoundDown() {
        due.topic("every division rounds down: v * (1000000 + draw) / 1000000");
        int[][] speeds = {{199, 5000}, {200, 5001}, {-1, 4999}, {-200, 4999}, {-201, 4998}};
        for (int[] one : speeds) {
            WebTensionLine x = line();
            x.setDraw(1, one[0]);
            x.run(1);
            due.is("speed with the draw " + one[0], one[1], x.roller(1, 1));
        }
    }

    private static void nominalSpeedsRoundDownOneByOne() {
        due.topic("the nominal speed of roller i is that of roller i - 1, times ..");
        WebTensionLine x = line();
        x.addSpan(100000);
        x.setDraw(1, 199);
        x.setDraw(2, 2);
        x.run(1);
        due.is("speed of roller 2, not 5001.005", 5000, x.roller(2, 1));
        x.setDraw(2, 200);
        due.is("speed of roller 2", 5001, x.roller(2, 1));
    }

    private static long amountOfRollerZero(int speed) {
        WebTensionLine x = new WebTensionLine();
        x.setWeb(1000000, 100000);
        x.setSpeed(speed, 5000);
        x.loadRoll(100000);
        x.run(1);
        return x.roller(0, 0);
    }

    private static void amountOfRollerZeroRoundsDown() {
        due.topic("every division rounds down: v * K / (K + W)");
        due.is("of 999.09", 999, amountOfRollerZero(1099));
        due.is("of 1000", 1000, amountOfRollerZero(1100));
        due.is("of 1000.91", 1000, amountOfRollerZero(1101));
        due.is("of 0.91", 0, amountOfRollerZero(1));
    }

    private static void amountsRoundDown() {
        due.topic("every division rounds down: v * U / L");
        WebTensionLine x = line();
        x.setDraw(1, 200);
        x.run(2);
        due.is("5001 and 5000.95", 10001, x.roller(1, 0));
        x = line();
        x.setDraw(1, -200);
        x.run(2);
        due.is("4999 and 4999.05", 9998, x.roller(1, 0));
    }

    /** The position after a tick, from 1 on, with the tension 1 before it moves. */
    private static long positionAt(int force, int mobility) {
        WebTensionLine x = line();
        x.setWeb(100001, 0);
        x.setDancer(0, 3, force, mobility, 0, 0);
        x.setDraw(1, 200);
        x.run(1);
        due.is("material", 100001, x.measure(0, 1));
        return x.measure(0, 6);
    }

    private static void dancerStepsRoundDown() {
        due.topic("every division rounds down: (F - 2 * T) / mobility");
        due.is("of -2 / 3", 0, positionAt(0, 3));
        due.is("of -1 / 3", 0, positionAt(1, 3));
        due.is("of 0 / 3", 1, positionAt(2, 3));
        due.is("of 2 / 3", 1, positionAt(4, 3));
        due.is("of 3 / 3", 2, positionAt(5, 3));
        due.is("of 5 / 3", 2, positionAt(7, 3));
        due.is("of 6 / 3", 3, positionAt(8, 3));
    }

    private static void theHalfOfTheTravelRoundsDown() {
        due.topic("every division rounds down: half the travel");
        int[][] halves = {{2, 1}, {3, 1}, {4, 2}, {99999, 49999}};
        for (int[] one : halves) {
            WebTensionLine x = line();
            x.setDancer(0, one[0], 0, 1, 1000, 0);
            due.is("position of travel " + one[0], one[1], x.measure(0, 6));
            x.run(1);
            due.is("position of travel " + one[0], one[1], x.measure(0, 6));
            due.is("e of travel " + one[0], 0, x.roller(1, 3));
        }
    }

    /** A dancer that moves by 500 or less in the first tick, without tension before it. */
    private static long trimOf(int travel, int force, int kp, int ki) {
        WebTensionLine x = line();
        x.setDancer(0, travel, force, 1, kp, ki);
        x.run(1);
        return x.roller(1, 3);
    }

    private static void trimsByKpRoundDown() {
        due.topic("every division rounds down: kp * e / 1000");
        due.is("of 0.999", 0, trimOf(1000, 1, 999, 0));
        due.is("of 1", 1, trimOf(1000, 1, 1000, 0));
        due.is("of 1.998", 1, trimOf(1000, 2, 999, 0));
        due.is("of -0.001", -1, trimOf(1000, 1, -1, 0));
        due.is("of -1", -1, trimOf(1000, 1, -1000, 0));
        due.is("of -1.002", -2, trimOf(1000, 2, -501, 0));
    }

    private static void trimsByKiRoundDown() {
        due.topic("every division rounds down: ki * sum / 1000000");
        due.is("of 0.499", 0, trimOf(2000, 499, 0, 1000));
        due.is("of -0.000001", -1, trimOf(2000, 1, 0, -1));
        WebTensionLine x = line();
        x.setWeb(1000, 0);
        x.setDancer(0, 2001, 1000, 1, 0, 1000);
        x.run(2);
        due.is("sum", 1500, x.measure(0, 7));
        due.is("of 1.5", 1, x.roller(1, 3));
    }

    private static void trimsAreTwoDivisions() {
        due.topic("the trim becomes kp * e / 1000 + ki * sum / 1000000 (two divisions)");
        due.is("0.5 and 0.5", 0, trimOf(2000, 500, 1, 1000));
        due.is("-0.5 and -0.5", -2, trimOf(2000, 500, -1, -1000));
        due.is("0.5 and -0.5", -1, trimOf(2000, 500, 1, -1000));
    }

    private static long trimOfLoadCell(int wanted, int gain, int stretch) {
        WebTensionLine x = line();
        x.setWeb(100000 - stretch, 0);
        x.setLoadCell(0, wanted, gain);
        x.setDraw(1, 200 * stretch);
        x.run(1);
        due.is("tension", stretch, x.measure(0, 0));
        return x.roller(1, 3);
    }

    private static void trimsOfLoadCellsRoundDown() {
        due.topic("every division rounds down: gain * (wanted tension - T) / 1000000");
        due.is("of 0.999999", 0, trimOfLoadCell(1000000, 1, 1));
        due.is("of 1", 1, trimOfLoadCell(1000000, 1, 0));
        due.is("of 0", 0, trimOfLoadCell(1, 1, 1));
        due.is("of -0.000001", -1, trimOfLoadCell(0, 1, 1));
        due.is("of -0.999999", -1, trimOfLoadCell(1000000, -1, 1));
        due.is("of -1", -1, trimOfLoadCell(10001, -100, 1));
        due.is("of -1.000001", -2, trimOfLoadCell(9902, -101, 1));
    }

    private static int stateOf(int strength, int splice) {
        WebTensionLine x = new WebTensionLine();
        x.reset(100000);
        x.setWeb(99900, 0);
        x.setSplicing(20000, 0);
        x.setStrength(strength, splice);
        x.setDraw(1, 20000);
        x.setSpeed(5000, 5000);
        x.loadRoll(1);
        x.loadRoll(100000000);
        int state = x.run(1);
        due.is("tension", 100, x.measure(0, 0));
        return state;
    }

    private static void strengthOfSplicesRoundsDown() {
        due.topic("every division rounds down: strength * splice strength / 1000");
        due.is("100.1", 0, stateOf(1001, 100));
        due.is("100", 0, stateOf(1000, 100));
        due.is("99.9", 1, stateOf(9990, 10));
        due.is("99.99", 1, stateOf(9999, 10));
    }

    private static long steadyTension(int wound, int draw) {
        WebTensionLine x = new WebTensionLine();
        x.setWeb(1000000, wound);
        x.setDraw(1, draw);
        x.setSpeed(1000, 1);
        return x.steadyTension(0);
    }

    private static void steadyTensionRoundsDown() {
        due.topic("every division rounds down: ((K + W) * v - K * w) / w");
        due.is("of 0.998", 0, steadyTension(1002, -1000));
        due.is("of 1.997", 1, steadyTension(1003, -1000));
        due.is("of 2.996", 2, steadyTension(1004, -1000));
        due.is("of 1999.999", 1999, steadyTension(999, 1000));
        due.is("of 2001", 2001, steadyTension(1000, 1000));
    }

    private static void oneSpan() {
        due.topic("n spans, 1 to 6, and n + 1 rollers: one span");
        WebTensionLine x = new WebTensionLine();
        due.is("spans", 1, x.value(3));
        due.is("span 0", 1000000, x.measure(0, 2));
        due.is("span 1", NO_VALUE, x.measure(1, 2));
        due.is("roller 1", 0, x.roller(1, 0));
        due.is("roller 2", NO_VALUE, x.roller(2, 0));
    }

    private static void sixSpans() {
        due.topic("n spans, 1 to 6, and n + 1 rollers: six spans");
        WebTensionLine x = new WebTensionLine();
        for (int span = 1; span < 6; span++) {
            due.is("addSpan", span, x.addSpan(100000 * span));
        }
        due.is("a seventh", WebTensionLine.FULL, x.addSpan(100000));
        due.is("spans", 6, x.value(3));
        due.is("span 5", 500000, x.measure(5, 2));
        due.is("span 6", NO_VALUE, x.measure(6, 2));
        due.is("roller 6", 0, x.roller(6, 0));
        due.is("roller 7", NO_VALUE, x.roller(7, 0));
        x.setDraw(6, 200);
        x.setSpeed(5000, 5000);
        x.loadRoll(1000000);
        x.run(1);
        due.is("roller 6 passes web", 5001, x.roller(6, 0));
        due.is("span 5 loses it", 499999, x.measure(5, 1));
        due.is("the rewinder takes it", 5001, x.web(2));
        due.is("steadyTension(5)", 200, x.steadyTension(5));
    }

    private static void tensionIfTheLengthIsGreater() {
        due.topic("tension if L is greater than U, otherwise 0");
        due.is("L - U = 1", 100, tensionOf(10000000, 1));
        due.is("L - U = 0", 0, tensionOf(10000000, 0));
        due.is("L - U = -1", 0, tensionOf(10000000, -1));
        due.is("L - U = -100", 0, tensionOf(10000000, -100));
    }

    private static void tensionOfAStretchThatRoundsToNothing() {
        due.topic("tension if L is greater than U, which may be 0 too");
        due.is("of 0.99999", 0, tensionOf(99998, 1));
        due.is("of 1", 1, tensionOf(99999, 1));
        WebTensionLine x = line();
        x.setWeb(99998, 0);
        x.setDraw(1, 200);
        x.run(1);
        due.is("slack count with the tension 0", 1, x.measure(0, 4));
    }

    private static void lengthWithADancer() {
        due.topic("its length is the nominal length, plus 2 * p if it has a dancer");
        WebTensionLine x = line();
        x.setDancer(0, 999, 1000, 1, 0, 0);
        due.is("length at first", 100998, x.measure(0, 2));
        x.run(1);
        due.is("position", 999, x.measure(0, 6));
        due.is("length", 101998, x.measure(0, 2));
        x = line();
        x.setDancer(0, 1000, 0, 1, 0, 0);
        x.setWeb(1000000, 100000);
        x.setDraw(1, 20000);
        x.run(1);
        due.is("position", 0, x.measure(0, 6));
        due.is("length", 100000, x.measure(0, 2));
    }

    private static void theBaseSpeedAtFirst() {
        due.topic("a base speed, 0 at first, and a target");
        WebTensionLine x = line();
        due.is("base speed before the first tick", 0, x.value(2));
        due.is("speed of roller 0", 0, x.roller(0, 1));
        x.run(1);
        due.is("base speed", 5000, x.value(2));
        due.is("speed of roller 0", 5000, x.roller(0, 1));
    }

    private static void speedOfRollerZero() {
        due.topic("the speed of a roller is its nominal speed plus its trim (0 for roller 0)");
        WebTensionLine x = line();
        x.setLoadCell(0, 1000000, 1500);
        x.run(1);
        due.is("trim of roller 0", 0, x.roller(0, 3));
        due.is("speed of roller 0", 5000, x.roller(0, 1));
        due.is("trim of roller 1", 1500, x.roller(1, 3));
        due.is("speed of roller 1", 6500, x.roller(1, 1));
        x.run(1);
        due.is("passage of roller 0", 10000, x.roller(0, 0));
        due.is("passage of roller 1", 11500, x.roller(1, 0));
    }

    /** A base speed of 1000, and a trim that is the gain, from the end of the first tick on. */
    private static WebTensionLine trimmedBy(int gain) {
        WebTensionLine x = line();
        x.setSpeed(1000, 1000);
        x.setLoadCell(0, 1000000, gain);
        x.run(1);
        due.is("trim", gain, x.roller(1, 3));
        return x;
    }

    private static void speedsAreAtLeastZero() {
        due.topic("the speed of a roller is at least 0");
        int[][] speeds = {{-998, 2}, {-999, 1}, {-1000, 0}, {-1001, 0}, {-2000, 0}};
        for (int[] one : speeds) {
            WebTensionLine x = trimmedBy(one[0]);
            due.is("speed with the trim " + one[0], one[1], x.roller(1, 1));
            x.run(1);
            due.is("passage with the trim " + one[0], 1000 + one[1], x.roller(1, 0));
            due.is("material with the trim " + one[0], 101000 - one[1], x.measure(0, 1));
        }
    }

    private static void noSpeedWhileTheBaseSpeedIsZero() {
        due.topic("while the base speed is 0, all speeds are 0");
        WebTensionLine x = trimmedBy(500);
        x.setSpeed(0, 999);
        x.run(1);
        due.is("base speed", 1, x.value(2));
        due.is("speed at 1, with the trim 500 + 497.4", 998, x.roller(1, 1));
        due.is("passage", 1501, x.roller(1, 0));
        x.run(1);
        due.is("base speed", 0, x.value(2));
        due.is("trim", 997, x.roller(1, 3));
        due.is("speed at 0", 0, x.roller(1, 1));
        due.is("speed of roller 0 at 0", 0, x.roller(0, 1));
        due.is("passage", 1501, x.roller(1, 0));
        due.is("passage of roller 0", 1001, x.roller(0, 0));
    }

    /** The passage is 20000 * t - 30000 after t ticks. */
    private static void numbersBeyondAnInt() {
        due.topic("512 calls: numbers that outgrow an int");
        WebTensionLine x = new WebTensionLine();
        for (int roll = 0; roll < 5; roll++) {
            due.is("loadRoll", roll, x.loadRoll(1000000000));
        }
        x.setSpeed(20000, 5000);
        x.setSplicing(20000, 0);
        for (int call = 0; call < 480; call++) {
            due.is("run(300)", 0, x.run(300));
        }
        due.is("value(0)", 144000, x.value(0));
        due.is("roller(0, 0)", 2879970000L, x.roller(0, 0));
        due.is("roller(1, 0)", 2879970000L, x.roller(1, 0));
        due.is("web(0)", 120030000, x.web(0));
        due.is("web(1)", 2000000000, x.web(1));
        due.is("web(2)", 879970000, x.web(2));
        due.is("value(5)", 2, x.value(5));
        due.is("measure(0, 4)", 144000, x.measure(0, 4));
        due.is("event(0, 0)", 20, x.event(0, 0));
        due.is("event(1, 0), splice", 50002, x.event(1, 0));
        due.is("event(2, 0), finished", 50002, x.event(2, 0));
        due.is("value(7)", 5, x.value(7));
    }

    /** 10000000 * 20000 is more than an int holds. */
    private static void greatStiffnessAndSpeed() {
        due.topic("greatest stiffness and speed");
        WebTensionLine x = line();
        x.setWeb(10000000, 100000);
        x.setStrength(10000000, 500);
        x.setSpeed(20000, 5000);
        x.run(4);
        due.is("base speed", 20000, x.value(2));
        long before = x.roller(0, 0);
        x.run(1);
        due.is("amount of 19801.98", 19801, x.roller(0, 0) - before);
        due.is("steadyTension(0)", 100000, x.steadyTension(0));
        x.setDraw(1, 20000);
        due.is("steadyTension(0)", 302000, x.steadyTension(0));
    }
}

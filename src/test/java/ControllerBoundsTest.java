/** The boundary cases that the section Controllers and part 5 of a tick name, a test each. */
public final class ControllerBoundsTest {
    private static final long NO_VALUE = WebTensionLine.NO_VALUE;
    private static final Due due = new Due();

    public static void main(String[] args) {
        oneControllerOnly();
        trimsOfLoadCellsAreLimited();
        trimsOfLoadCellsAreLimitedWhenTheyAddUp();
        trimsOfDancersAreLimitedAbove();
        trimsOfDancersAreLimitedBelow();
        aRollerWithoutAController();
        dancerAtFirst();
        stepsAreLimitedAbove();
        stepsAreLimitedBelow();
        positionsAreLimitedAbove();
        positionsAreLimitedBelow();
        sumsAreLimitedAbove();
        sumsAreLimitedBelow();
        dancerMovesByThePositionBefore();
        theTensionThatTheControllersSee();
        controllersActIfTheBaseSpeedIsGreaterThanZero();
        controllersRestAtZero();
        controllersActInTheTickThatStops();
        due.end();
    }

    /** A span of 100000 and a base speed of 5000 from the first tick on. */
    private static WebTensionLine line() {
        WebTensionLine x = new WebTensionLine();
        x.reset(100000);
        x.setSpeed(5000, 5000);
        x.loadRoll(100000000);
        return x;
    }

    private static void oneControllerOnly() {
        due.topic("a span can have one controller");
        WebTensionLine x = line();
        due.is("setDancer on none", 0, x.setDancer(0, 1000, 1000000, 1, 1000, 0));
        due.is("setDancer on a dancer", 1, x.setDancer(0, 1000, 1000000, 1, 1000, 0));
        due.is("setLoadCell on a dancer", 1, x.setLoadCell(0, 1000000, 3));
        due.is("setLoadCell on a load cell", 1, x.setLoadCell(0, 1000000, 7));
        x.run(1);
        due.is("trim by the load cell", 7, x.roller(1, 3));
        due.is("length without the dancer", 100000, x.measure(0, 2));
        due.is("position without the dancer", NO_VALUE, x.measure(0, 6));
        x.reset(100000);
        x.setSpeed(5000, 5000);
        x.loadRoll(100000000);
        x.setLoadCell(0, 1000000, 7);
        due.is("setDancer on a load cell", 1, x.setDancer(0, 1000, 3, 1, 1000, 0));
        x.run(1);
        due.is("trim by the dancer", 3, x.roller(1, 3));
    }

    private static long trimOfLoadCell(int gain) {
        WebTensionLine x = line();
        x.setLoadCell(0, 1000000, gain);
        x.run(1);
        return x.roller(1, 3);
    }

    private static void trimsOfLoadCellsAreLimited() {
        due.topic("trims are limited to the range from -2000 to 2000: load cell");
        int[][] trims = {{1999, 1999}, {2000, 2000}, {2001, 2000}, {10000, 2000},
            {-1999, -1999}, {-2000, -2000}, {-2001, -2000}, {-10000, -2000}};
        for (int[] one : trims) {
            due.is("trim of " + one[0], one[1], trimOfLoadCell(one[0]));
        }
    }

    /** The wanted tension is 1000000, and the stiffness so small that the tension is next to 0. */
    private static void trimsOfLoadCellsAreLimitedWhenTheyAddUp() {
        due.topic("trims are limited: a load cell's that adds up");
        for (int sign : new int[] {1, -1}) {
            WebTensionLine x = line();
            x.setWeb(1000, 0);
            x.setLoadCell(0, 1000000, 700 * sign);
            x.run(2);
            due.holds("after two ticks", Math.abs(x.roller(1, 3)) > 1390
                    && Math.abs(x.roller(1, 3)) <= 1400);
            x.run(1);
            due.is("after three", 2000 * sign, x.roller(1, 3));
            x.run(10);
            due.is("after more", 2000 * sign, x.roller(1, 3));
        }
    }

    /** The dancer rises by 500 a tick: e is 2000 after four ticks, and the sum 5000. */
    private static long trimOfDancer(int kp, int ki) {
        WebTensionLine x = line();
        x.setWeb(1000, 0);
        x.setDancer(0, 10000, 1000000, 1, kp, ki);
        x.run(4);
        due.is("position", 7000, x.measure(0, 6));
        due.is("sum", 5000, x.measure(0, 7));
        return x.roller(1, 3);
    }

    private static void trimsOfDancersAreLimitedAbove() {
        due.topic("trims are limited to the range from -2000 to 2000: dancer, above");
        due.is("2000 - 1", 1999, trimOfDancer(1000, -200));
        due.is("2000", 2000, trimOfDancer(1000, 0));
        due.is("2000 + 1", 2000, trimOfDancer(1000, 200));
        due.is("2000 + 5", 2000, trimOfDancer(1000, 1000));
    }

    private static void trimsOfDancersAreLimitedBelow() {
        due.topic("trims are limited to the range from -2000 to 2000: dancer, below");
        due.is("-2000 + 1", -1999, trimOfDancer(-1000, 200));
        due.is("-2000", -2000, trimOfDancer(-1000, 0));
        due.is("-2000 - 1", -2000, trimOfDancer(-1000, -200));
        due.is("-2000 - 5", -2000, trimOfDancer(-1000, -1000));
    }

    private static void aRollerWithoutAController() {
        due.topic("the trim of a roller without a controller is 0");
        WebTensionLine x = line();
        x.addSpan(100000);
        x.addSpan(100000);
        x.setLoadCell(1, 1000000, 9);
        x.run(1);
        long[] trims = {0, 0, 9, 0};
        for (int roller = 0; roller < trims.length; roller++) {
            due.is("trim of roller " + roller, trims[roller], x.roller(roller, 3));
        }
    }

    private static void dancerAtFirst() {
        due.topic("its position p is at first half its travel, its sum is 0");
        WebTensionLine x = line();
        int[][] positions = {{2, 1}, {3, 1}, {99999, 49999}, {100000, 50000}};
        for (int[] one : positions) {
            x.setDancer(0, one[0], 1000000, 1, 1000, 1000);
            due.is("position of travel " + one[0], one[1], x.measure(0, 6));
            due.is("sum", 0, x.measure(0, 7));
            due.is("trim", 0, x.roller(1, 3));
        }
        x.run(1);
        x.reset(100000);
        x.setDancer(0, 4, 0, 1, 0, 0);
        due.is("position after reset", 2, x.measure(0, 6));
        due.is("sum after reset", 0, x.measure(0, 7));
    }

    /** How a dancer of the travel 10000 moves in the first tick, without tension. */
    private static long stepOf(int force) {
        WebTensionLine x = line();
        x.setDancer(0, 10000, force, 1, 0, 0);
        x.run(1);
        return x.measure(0, 6) - 5000;
    }

    private static void stepsAreLimitedAbove() {
        due.topic("the change is limited to the range from -500 to 500: above");
        due.is("of 499", 499, stepOf(499));
        due.is("of 500", 500, stepOf(500));
        due.is("of 501", 500, stepOf(501));
        due.is("of 1000000", 500, stepOf(1000000));
    }

    /** The same with a tension; the length is 102000 and the material becomes 101900. */
    private static long stepOf(int stiffness, int force) {
        WebTensionLine x = line();
        x.setWeb(stiffness, 0);
        x.setDancer(0, 2000, force, 1, 0, 0);
        x.setDraw(1, 20000);
        x.run(1);
        due.is("material", 101900, x.measure(0, 1));
        return x.measure(0, 6) - 1000;
    }

    private static void stepsAreLimitedBelow() {
        due.topic("the change is limited to the range from -500 to 500: below");
        due.is("of 1 - 500", -499, stepOf(254750, 1));
        due.is("of 0 - 500", -500, stepOf(254750, 0));
        due.is("of 1 - 502", -500, stepOf(255769, 1));
        due.is("of 0 - 19626", -500, stepOf(10000000, 0));
    }

    private static void positionsAreLimitedAbove() {
        due.topic("p is limited to the range from 0 to the travel: the travel");
        int[][] positions = {{1001, 1000}, {1000, 1000}, {999, 999}, {998, 998}, {997, 997},
            {2, 2}};
        for (int[] one : positions) {
            WebTensionLine x = line();
            x.setDancer(0, one[0], 500, 1, 0, 0);
            x.run(1);
            due.is("position of travel " + one[0], one[1], x.measure(0, 6));
        }
    }

    private static void positionsAreLimitedBelow() {
        due.topic("p is limited to the range from 0 to the travel: 0");
        int[][] positions = {{1004, 2}, {1002, 1}, {1001, 0}, {1000, 0}, {999, 0}, {998, 0}, {2, 0}};
        for (int[] one : positions) {
            WebTensionLine x = line();
            x.setWeb(10000000, 0);
            x.setStrength(10000000, 500);
            x.setDancer(0, one[0], 0, 1, 0, 0);
            x.setDraw(1, 20000);
            x.run(1);
            due.is("position of travel " + one[0], one[1], x.measure(0, 6));
        }
    }

    /** It goes up to e = 16000 in 32 ticks, then stays; the sum is 264000 then. */
    private static void sumsAreLimitedAbove() {
        due.topic("the sum is limited to the range from -1000000 to 1000000: above");
        WebTensionLine x = line();
        x.setWeb(1000, 0);
        x.setDancer(0, 32000, 1000000, 1, 0, 1000);
        x.run(32);
        due.is("position", 32000, x.measure(0, 6));
        due.is("sum after 32", 264000, x.measure(0, 7));
        x.run(45);
        due.is("sum after 77", 984000, x.measure(0, 7));
        due.is("trim after 77", 984, x.roller(1, 3));
        x.run(1);
        due.is("sum after 78", 1000000, x.measure(0, 7));
        x.run(1);
        due.is("sum after 79", 1000000, x.measure(0, 7));
        due.is("trim after 79", 1000, x.roller(1, 3));
    }

    private static void sumsAreLimitedBelow() {
        due.topic("the sum is limited to the range from -1000000 to 1000000: below");
        WebTensionLine x = line();
        x.setWeb(1000000, 100000);
        x.setStrength(10000000, 500);
        x.setDancer(0, 32000, 0, 1, 0, 0);
        x.setDraw(1, 20000);
        x.setSpeed(20000, 5000);
        x.run(32);
        due.is("position", 0, x.measure(0, 6));
        due.is("sum after 32", -264000, x.measure(0, 7));
        x.run(45);
        due.is("sum after 77", -984000, x.measure(0, 7));
        x.run(1);
        due.is("sum after 78", -1000000, x.measure(0, 7));
        x.run(1);
        due.is("sum after 79", -1000000, x.measure(0, 7));
    }

    /** After the dancer has moved up by 500, the tension is 9803, but not when it moves. */
    private static void dancerMovesByThePositionBefore() {
        due.topic("T is the tension of the span with the position before");
        WebTensionLine x = line();
        x.setDancer(0, 2000, 500, 1, 1000, 0);
        x.run(1);
        due.is("position", 1500, x.measure(0, 6));
        due.is("trim", 500, x.roller(1, 3));
        due.is("tension with the position after", 9803, x.measure(0, 0));
    }

    private static void theTensionThatTheControllersSee() {
        due.topic("T is the tension of the span, by its material as it is then");
        WebTensionLine x = line();
        x.setWeb(99900, 0);
        x.setLoadCell(0, 0, 10000);
        x.setDraw(1, 20000);
        x.run(1);
        due.is("tension after the web has passed", 100, x.measure(0, 0));
        due.is("trim", -1, x.roller(1, 3));
    }

    private static WebTensionLine withBothControllers() {
        WebTensionLine x = line();
        x.addSpan(100000);
        x.setDancer(0, 2000, 300, 1, 1000, 0);
        x.setLoadCell(1, 1000000, 8);
        return x;
    }

    private static void controllersActIfTheBaseSpeedIsGreaterThanZero() {
        due.topic("if the base speed is greater than 0, the controllers act: 1");
        WebTensionLine x = withBothControllers();
        x.setSpeed(1, 1);
        x.run(1);
        due.is("base speed", 1, x.value(2));
        due.is("position", 1300, x.measure(0, 6));
        due.is("sum", 300, x.measure(0, 7));
        due.is("trim of roller 1", 300, x.roller(1, 3));
        due.is("trim of roller 2", 8, x.roller(2, 3));
    }

    private static void controllersRestAtZero() {
        due.topic("if the base speed is greater than 0, the controllers act: 0");
        WebTensionLine x = withBothControllers();
        x.setSpeed(0, 1);
        x.run(3);
        due.is("position", 1000, x.measure(0, 6));
        due.is("sum", 0, x.measure(0, 7));
        due.is("trim of roller 1", 0, x.roller(1, 3));
        due.is("trim of roller 2", 0, x.roller(2, 3));
        x = withBothControllers();
        x.setSpeed(1, 1);
        x.run(1);
        x.setSpeed(0, 1);
        x.run(1);
        due.is("base speed, down to 0", 0, x.value(2));
        due.is("position stays", 1300, x.measure(0, 6));
        due.is("sum stays", 300, x.measure(0, 7));
        due.is("trim of roller 1 stays", 300, x.roller(1, 3));
        due.is("trim of roller 2 stays", 8, x.roller(2, 3));
    }

    private static void controllersActInTheTickThatStops() {
        due.topic("the tick is carried out to its end nevertheless: controllers");
        WebTensionLine x = new WebTensionLine();
        x.setSpeed(5000, 5000);
        x.setLoadCell(0, 1000000, 8);
        x.loadRoll(1);
        due.is("run(1), out of web", 2, x.run(1));
        due.is("trim", 8, x.roller(1, 3));
        x.reset(100000);
        x.setSpeed(5000, 5000);
        x.setDancer(0, 2000, 300, 1, 1000, 0);
        x.loadRoll(1);
        x.loadRoll(1);
        due.is("run(1), broken", 1, x.run(1));
        due.is("position", 1300, x.measure(0, 6));
        due.is("trim", 300, x.roller(1, 3));
        x.run(1);
        due.is("position after it", 1300, x.measure(0, 6));
    }
}

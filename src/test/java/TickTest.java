/** Promise 13: run, and what a tick does, part by part. The due values are reckoned by hand. */
public final class TickTest {
    private static final int BAD = WebTensionLine.BAD_VALUE;
    private static final Due due = new Due();

    public static void main(String[] args) {
        run();
        theRamp();
        theSpliceSpeed();
        theAmounts();
        theSpeeds();
        theWebEnds();
        aSplice();
        aSpliceAtTooGreatASpeed();
        shortRolls();
        aSpliceWhileTheLineStands();
        finishedRolls();
        dancerMoves();
        dancerTrimsRoundDown();
        dancerLimits();
        dancerSumFalls();
        loadCell();
        controllersRest();
        tensions();
        slack();
        aBreak();
        aSpliceBreaks();
        onlyTheSpanWithTheMark();
        outOfWebAndBroken();
        brokenOnlyOnce();
        due.end();
    }

    /** One span that runs at a base speed from its first tick on, up to 5000. */
    private static WebTensionLine at(int speed, int roll) {
        WebTensionLine x = new WebTensionLine();
        x.setSpeed(speed, 5000);
        x.loadRoll(roll);
        return x;
    }

    private static void run() {
        due.topic("promise 13");
        WebTensionLine x = new WebTensionLine();
        for (int ticks : new int[] {0, 301, -1, Integer.MIN_VALUE, Integer.MAX_VALUE}) {
            due.is("run " + ticks, BAD, x.run(ticks));
        }
        due.is("value(0)", 0, x.value(0));
        due.is("run(1)", 0, x.run(1));
        due.is("value(0)", 1, x.value(0));
        due.is("run(300)", 0, x.run(300));
        due.is("value(0)", 301, x.value(0));
    }

    private static void theRamp() {
        due.topic("part 1");
        WebTensionLine x = new WebTensionLine();
        x.loadRoll(1000000);
        x.setSpeed(1000, 300);
        int[] up = {300, 600, 900, 1000, 1000};
        for (int speed : up) {
            x.run(1);
            due.is("value(2) going up", speed, x.value(2));
        }
        x.setSpeed(0, 450);
        int[] down = {550, 100, 0, 0};
        for (int speed : down) {
            x.run(1);
            due.is("value(2) going down", speed, x.value(2));
        }
    }

    private static void theSpliceSpeed() {
        WebTensionLine x = at(1000, 100000);
        x.loadRoll(100000);
        x.setSplicing(400, 50000);
        x.run(50);
        due.is("web(0), at the trigger", 50000, x.web(0));
        due.is("value(2)", 1000, x.value(2));
        x.run(1);
        due.is("value(2), splice pending", 400, x.value(2));
        x.setSplicing(1001, 50000);
        x.run(1);
        due.is("value(2), splice speed above the target", 1000, x.value(2));
        x = at(1000, 100000);
        x.loadRoll(100000);
        x.setSplicing(400, 49999);
        x.run(51);
        due.is("value(2), above the trigger", 1000, x.value(2));
        x = at(1000, 100000);
        x.setSplicing(400, 100000000);
        x.run(51);
        due.is("value(2), empty queue", 1000, x.value(2));
    }

    private static void theAmounts() {
        due.topic("part 2");
        WebTensionLine x = new WebTensionLine();
        x.setWeb(1000000, 100000);
        x.setDraw(1, 1000);
        x.setSpeed(1099, 1099);
        x.loadRoll(100000);
        x.run(1);
        due.is("roller(0, 0), 999.09", 999, x.roller(0, 0));
        due.is("roller(1, 0), 1100", 1100, x.roller(1, 0));
        due.is("measure(0, 1)", 999899, x.measure(0, 1));
        due.is("web(0)", 99001, x.web(0));
        due.is("web(2)", 1100, x.web(2));
        x.run(1);
        due.is("roller(0, 0)", 1998, x.roller(0, 0));
        due.is("roller(1, 0), 1099.89 more", 2199, x.roller(1, 0));
        due.is("measure(0, 1)", 999799, x.measure(0, 1));
    }

    private static void theSpeeds() {
        WebTensionLine x = new WebTensionLine();
        x.addSpan(100000);
        x.setDraw(1, 20000);
        x.setDraw(2, -20000);
        x.setSpeed(1000, 1000);
        x.loadRoll(100000);
        x.run(1);
        due.is("roller(0, 1)", 1000, x.roller(0, 1));
        due.is("roller(1, 1)", 1020, x.roller(1, 1));
        due.is("roller(2, 1), 999.6", 999, x.roller(2, 1));
        due.is("measure(0, 1)", 999980, x.measure(0, 1));
        due.is("measure(1, 1)", 100021, x.measure(1, 1));
        x.setDraw(1, -1);
        due.is("roller(1, 1), 999.999", 999, x.roller(1, 1));
    }

    private static void theWebEnds() {
        due.topic("part 3");
        WebTensionLine x = at(1000, 1000);
        due.is("run(1), used up", 0, x.run(1));
        due.is("web(0)", 0, x.web(0));
        due.is("run(1), out of web", 2, x.run(1));
        due.is("web(0)", -1000, x.web(0));
        due.is("event(0, 0)", 2, x.event(0, 0));
        due.is("event(0, 1)", 4, x.event(0, 1));
        due.is("event(0, 2)", 0, x.event(0, 2));
        due.is("the tick is carried out: web(2)", 2000, x.web(2));
        due.is("run(5)", 2, x.run(5));
        due.is("value(0)", 2, x.value(0));
        due.is("web(0)", -1000, x.web(0));
    }

    private static void aSplice() {
        WebTensionLine x = at(1000, 999);
        x.loadRoll(5000);
        due.is("run(1)", 0, x.run(1));
        due.is("event(0, 0)", 1, x.event(0, 0));
        due.is("event(0, 1)", 0, x.event(0, 1));
        due.is("event(0, 2)", 0, x.event(0, 2));
        due.is("web(0)", 4999, x.web(0));
        due.is("value(6)", 0, x.value(6));
        due.is("value(4)", 1, x.value(4));
        due.is("measure(0, 5)", 1, x.measure(0, 5));
        due.is("markDistance(0)", 999999, x.markDistance(0));
        x.run(1);
        due.is("markDistance(0)", 998999, x.markDistance(0));
    }

    private static void aSpliceAtTooGreatASpeed() {
        WebTensionLine x = at(1001, 1000);
        x.loadRoll(5000);
        due.is("run(1), base 1001, splice speed 1000", 1, x.run(1));
        due.is("breakAt()", -1, x.breakAt());
        due.is("event(0, 0)", 1, x.event(0, 0));
        due.is("event(0, 1)", 1, x.event(0, 1));
        due.is("event(0, 2)", -1, x.event(0, 2));
        due.is("value(6)", 1, x.value(6));
        due.is("value(4)", 0, x.value(4));
        due.is("web(0)", -1, x.web(0));
        due.is("the tick is carried out: web(2)", 1001, x.web(2));
    }

    /** Rolls so short that the next one ends before it comes to the roller. */
    private static WebTensionLine withShortRolls() {
        WebTensionLine x = at(1000, 999);
        x.loadRoll(1);
        x.loadRoll(1);
        x.loadRoll(1);
        x.loadRoll(5000);
        return x;
    }

    private static void shortRolls() {
        WebTensionLine x = withShortRolls();
        long[] left = {0, -999, -1998, 2002};
        for (int i = 0; i < left.length; i++) {
            due.is("run(1)", 0, x.run(1));
            due.is("web(0)", left[i], x.web(0));
            due.is("value(4)", i + 1, x.value(4));
        }
        for (int k = 0; k < 4; k++) {
            due.is("markDistance " + k, 996999 + k, x.markDistance(k));
        }
        due.is("measure(0, 5)", 4, x.measure(0, 5));
        due.is("value(7)", 4, x.value(7));
    }

    private static void aSpliceWhileTheLineStands() {
        WebTensionLine x = withShortRolls();
        x.run(2);
        x.setSpeed(0, 5000);
        due.is("run(1)", 0, x.run(1));
        due.is("value(2)", 0, x.value(2));
        due.is("value(4)", 3, x.value(4));
        due.is("web(0)", -998, x.web(0));
        due.is("markDistance(2)", 999001, x.markDistance(2));
    }

    private static void finishedRolls() {
        due.topic("part 4");
        WebTensionLine x = at(5000, 1000000);
        x.setRollLength(100000);
        x.run(19);
        due.is("value(5)", 0, x.value(5));
        due.is("web(2)", 95000, x.web(2));
        x.run(1);
        due.is("value(5), just at the length", 1, x.value(5));
        due.is("web(2)", 0, x.web(2));
        due.is("event(0, 0)", 20, x.event(0, 0));
        due.is("event(0, 1)", 5, x.event(0, 1));
        due.is("event(0, 2)", 1, x.event(0, 2));
        due.is("event(1, 1), slack later in the tick", 2, x.event(1, 1));
        x = at(5000, 1000000);
        x.run(50);
        due.is("web(2)", 250000, x.web(2));
        x.setRollLength(100000);
        long[] left = {155000, 60000, 65000};
        int[] finished = {1, 2, 2};
        for (int i = 0; i < left.length; i++) {
            x.run(1);
            due.is("web(2), once in a tick", left[i], x.web(2));
            due.is("value(5)", finished[i], x.value(5));
        }
        due.is("event(2, 2)", 2, x.event(2, 2));
    }

    private static void dancerMoves() {
        due.topic("part 5, dancer");
        WebTensionLine x = new WebTensionLine();
        x.setDancer(0, 10000, 2000, 10, 100, 10);
        x.setSpeed(1000, 1000);
        x.loadRoll(1000000);
        x.run(1);
        due.is("measure(0, 6)", 5200, x.measure(0, 6));
        due.is("measure(0, 7)", 200, x.measure(0, 7));
        due.is("roller(1, 3)", 20, x.roller(1, 3));
        due.is("roller(1, 1)", 1020, x.roller(1, 1));
        due.is("measure(0, 2)", 1010400, x.measure(0, 2));
        due.is("measure(0, 0), 396.04", 396, x.measure(0, 0));
        x.run(1);
        due.is("measure(0, 1)", 1009981, x.measure(0, 1));
        due.is("measure(0, 6), by the tension before, 414", 5317, x.measure(0, 6));
        due.is("measure(0, 7)", 517, x.measure(0, 7));
        due.is("roller(1, 3)", 31, x.roller(1, 3));
        due.is("measure(0, 0), 646.5", 646, x.measure(0, 0));
    }

    private static int trimAfterATick(int kp, int ki) {
        WebTensionLine x = new WebTensionLine();
        x.setDancer(0, 10000, 2000, 10, kp, ki);
        x.setSpeed(1000, 1000);
        x.loadRoll(1000000);
        x.run(1);
        return (int) x.roller(1, 3);
    }

    private static void dancerTrimsRoundDown() {
        due.is("trim of -20 and -0.002", -21, trimAfterATick(-100, -10));
        due.is("trim of 0.2 and 0.2", 0, trimAfterATick(1, 1000));
        due.is("trim of -0.2 and 0", -1, trimAfterATick(-1, 0));
        due.is("trim of 200 and -0.2", 199, trimAfterATick(1000, -1000));
    }

    private static WebTensionLine risingDancer(int travel, int kp, int ki) {
        WebTensionLine x = new WebTensionLine();
        x.setDancer(0, travel, 1000000, 1, kp, ki);
        x.setSpeed(1, 1);
        x.loadRoll(1000000);
        return x;
    }

    private static void dancerLimits() {
        WebTensionLine x = risingDancer(100000, 1000, 0);
        x.run(1);
        due.is("measure(0, 6), 500 a tick", 50500, x.measure(0, 6));
        x.run(3);
        due.is("roller(1, 3)", 2000, x.roller(1, 3));
        x.run(1);
        due.is("roller(1, 3), of 2500", 2000, x.roller(1, 3));
        x = risingDancer(100000, -1000, 0);
        x.run(5);
        due.is("roller(1, 3), of -2500", -2000, x.roller(1, 3));
        due.is("roller(1, 1), at least 0", 0, x.roller(1, 1));
        x = risingDancer(3, 0, 0);
        due.is("measure(0, 6)", 1, x.measure(0, 6));
        x.run(1);
        due.is("measure(0, 6), at most the travel", 3, x.measure(0, 6));
        due.is("measure(0, 7)", 2, x.measure(0, 7));
        x = risingDancer(100000, 0, 1000);
        x.run(62);
        due.is("measure(0, 7)", 976500, x.measure(0, 7));
        due.is("roller(1, 3)", 976, x.roller(1, 3));
        x.run(1);
        due.is("measure(0, 7), of 1008000", 1000000, x.measure(0, 7));
        due.is("roller(1, 3)", 1000, x.roller(1, 3));
    }

    /** Much more tension than the dancer's force: it falls by 500 a tick. */
    private static WebTensionLine fallingDancer(int travel) {
        WebTensionLine x = new WebTensionLine();
        x.setWeb(1000000, 100000);
        x.setDancer(0, travel, 0, 1, 0, 0);
        x.setDraw(1, 20000);
        x.setSpeed(20000, 5000);
        x.loadRoll(100000000);
        return x;
    }

    private static void dancerSumFalls() {
        WebTensionLine x = fallingDancer(100000);
        x.run(1);
        due.is("measure(0, 6)", 49500, x.measure(0, 6));
        x.run(61);
        due.is("measure(0, 7)", -976500, x.measure(0, 7));
        x.run(1);
        due.is("measure(0, 7), of -1008000", -1000000, x.measure(0, 7));
        due.is("measure(0, 6)", 18500, x.measure(0, 6));
        x = fallingDancer(900);
        x.run(1);
        due.is("measure(0, 6), at least 0", 0, x.measure(0, 6));
        due.is("measure(0, 7)", -450, x.measure(0, 7));
    }

    private static WebTensionLine loadCellOf(int wanted, int gain) {
        WebTensionLine x = new WebTensionLine();
        x.setLoadCell(0, wanted, gain);
        x.setSpeed(1000, 1000);
        x.loadRoll(1000000);
        return x;
    }

    private static void loadCell() {
        due.topic("part 5, load cell");
        WebTensionLine x = loadCellOf(1000, 10000);
        int[] trims = {10, 19, 28};
        int[] tensions = {0, 10, 28};
        for (int i = 0; i < trims.length; i++) {
            x.run(1);
            due.is("roller(1, 3)", trims[i], x.roller(1, 3));
            due.is("measure(0, 0)", tensions[i], x.measure(0, 0));
        }
        due.is("measure(0, 1)", 999972, x.measure(0, 1));
        x = loadCellOf(1, -1);
        x.run(2);
        due.is("roller(1, 3), of -0.000001 twice", -2, x.roller(1, 3));
        x = loadCellOf(1000000, 10000);
        x.run(1);
        due.is("roller(1, 3), of 10000", 2000, x.roller(1, 3));
        x = loadCellOf(1000000, -10000);
        x.run(1);
        due.is("roller(1, 3), of -10000", -2000, x.roller(1, 3));
    }

    private static void controllersRest() {
        due.topic("part 5, standing");
        WebTensionLine x = new WebTensionLine();
        x.addSpan(100000);
        x.setDancer(0, 10000, 2000, 10, 100, 10);
        x.setLoadCell(1, 1000, 10000);
        x.run(5);
        due.is("measure(0, 6)", 5000, x.measure(0, 6));
        due.is("measure(0, 7)", 0, x.measure(0, 7));
        due.is("roller(1, 3)", 0, x.roller(1, 3));
        due.is("roller(2, 3)", 0, x.roller(2, 3));
        x.loadRoll(1000000);
        x.setSpeed(1000, 1000);
        x.run(1);
        x.setSpeed(0, 1000);
        x.run(5);
        due.is("measure(0, 6)", 5200, x.measure(0, 6));
        due.is("roller(1, 3)", 20, x.roller(1, 3));
        due.is("roller(2, 3)", 10, x.roller(2, 3));
        due.is("roller(2, 1), standing", 0, x.roller(2, 1));
    }

    private static void tensions() {
        due.topic("part 6, tension");
        WebTensionLine x = at(1000, 1000000);
        x.setDraw(1, 20000);
        x.run(1);
        due.is("measure(0, 0)", 20, x.measure(0, 0));
        x.run(1);
        due.is("measure(0, 0)", 39, x.measure(0, 0));
        due.is("measure(0, 1)", 999961, x.measure(0, 1));
        x.setDraw(1, -20000);
        x.run(1);
        due.is("measure(0, 0)", 18, x.measure(0, 0));
        due.is("measure(0, 3)", 39, x.measure(0, 3));
    }

    private static void slack() {
        due.topic("part 6, slack");
        WebTensionLine x = new WebTensionLine();
        x.loadRoll(1000000);
        x.run(19);
        due.is("measure(0, 4)", 19, x.measure(0, 4));
        due.is("slackSpans()", 0, x.slackSpans());
        due.is("value(7)", 0, x.value(7));
        x.run(1);
        due.is("slackSpans()", 1, x.slackSpans());
        due.is("event(0, 0)", 20, x.event(0, 0));
        due.is("event(0, 1)", 2, x.event(0, 1));
        due.is("event(0, 2)", 0, x.event(0, 2));
        x.run(10);
        due.is("measure(0, 4)", 30, x.measure(0, 4));
        due.is("value(7), once only", 1, x.value(7));
        x.setDraw(1, 20000);
        x.setSpeed(1000, 1000);
        x.run(1);
        due.is("measure(0, 4)", 0, x.measure(0, 4));
        due.is("slackSpans()", 0, x.slackSpans());
        due.is("event(1, 0)", 31, x.event(1, 0));
        due.is("event(1, 1)", 3, x.event(1, 1));
        due.is("event(1, 2)", 0, x.event(1, 2));
        due.is("value(7), 19 ticks are no slack", 0, eventsAfterSlackOf(19));
        due.is("value(7), 20 ticks are", 2, eventsAfterSlackOf(20));
    }

    private static int eventsAfterSlackOf(int ticks) {
        WebTensionLine x = new WebTensionLine();
        x.loadRoll(1000000);
        x.run(ticks);
        x.setDraw(1, 20000);
        x.setSpeed(1000, 1000);
        x.run(1);
        due.is("measure(0, 4)", 0, x.measure(0, 4));
        return x.value(7);
    }

    /** Its tension is 100, 298, 593, 980, 1361 in the first five ticks; 50000 have passed before the fifth. */
    private static WebTensionLine tightening(int roll, int strength, int splice) {
        WebTensionLine x = at(20000, roll);
        x.setDraw(1, 20000);
        x.setStrength(strength, splice);
        return x;
    }

    private static void aBreak() {
        due.topic("part 6, break");
        WebTensionLine x = tightening(1000000, 1360, 1);
        due.is("run(4)", 0, x.run(4));
        due.is("measure(0, 0)", 980, x.measure(0, 0));
        due.is("run(10)", 1, x.run(10));
        due.is("value(0)", 5, x.value(0));
        due.is("measure(0, 0)", 1361, x.measure(0, 0));
        due.is("measure(0, 3)", 1361, x.measure(0, 3));
        due.is("breakAt()", 0, x.breakAt());
        due.is("event(0, 0)", 5, x.event(0, 0));
        due.is("event(0, 1)", 1, x.event(0, 1));
        due.is("event(0, 2)", 0, x.event(0, 2));
        due.is("value(7)", 1, x.value(7));
        x = tightening(1000000, 1361, 1);
        due.is("run(5), just as strong", 0, x.run(5));
        due.is("measure(0, 0)", 1361, x.measure(0, 0));
        due.is("breakAt()", WebTensionLine.NONE, x.breakAt());
    }

    private static WebTensionLine tighteningSplice(int strength) {
        WebTensionLine x = tightening(40000, strength, 500);
        x.setSplicing(20000, 0);
        x.loadRoll(1000000);
        return x;
    }

    private static void aSpliceBreaks() {
        WebTensionLine x = tighteningSplice(2723);
        due.is("run(5), 1361.5 rounds to just as strong", 0, x.run(5));
        due.is("measure(0, 5)", 1, x.measure(0, 5));
        x = tighteningSplice(2721);
        due.is("run(5), 1360.5 rounds to too weak", 1, x.run(5));
        due.is("breakAt()", 0, x.breakAt());
        due.is("value(4), the mark stays", 1, x.value(4));
        due.is("event(0, 1)", 0, x.event(0, 1));
        due.is("event(1, 1)", 1, x.event(1, 1));
    }

    /** A mark in the second span, which is slack, does not weaken the first. */
    private static void onlyTheSpanWithTheMark() {
        WebTensionLine x = new WebTensionLine();
        x.reset(100000);
        x.addSpan(10000000);
        x.loadRoll(999);
        x.loadRoll(100000000);
        x.setSpeed(1000, 1000);
        x.run(100);
        due.is("measure(0, 5)", 1, x.measure(0, 5));
        due.is("markDistance(0)", 10000999, x.markDistance(0));
        x.run(1);
        due.is("measure(0, 5), passed", 0, x.measure(0, 5));
        due.is("measure(1, 5)", 1, x.measure(1, 5));
        x.setStrength(1000, 1);
        x.setDraw(1, 20000);
        x.setDraw(2, -20000);
        due.is("run(4)", 0, x.run(4));
        due.holds("there is tension", x.measure(0, 0) > 1);
        due.is("measure(1, 0)", 0, x.measure(1, 0));
    }

    private static void outOfWebAndBroken() {
        due.topic("part 6, two stops");
        WebTensionLine x = tightening(60000, 1360, 500);
        due.is("run(10)", 1, x.run(10));
        due.is("value(0)", 5, x.value(0));
        due.is("event(0, 1)", 4, x.event(0, 1));
        due.is("event(1, 1)", 1, x.event(1, 1));
        due.is("breakAt()", 0, x.breakAt());
        due.is("web(0)", -10000, x.web(0));
    }

    private static void brokenOnlyOnce() {
        WebTensionLine x = tightening(60000, 1360, 500);
        x.loadRoll(1000);
        due.is("run(10)", 1, x.run(10));
        due.is("measure(0, 0)", 1361, x.measure(0, 0));
        due.is("breakAt()", -1, x.breakAt());
        due.is("value(7)", 1, x.value(7));
        x = new WebTensionLine();
        x.addSpan(1000000);
        x.setStrength(1300, 500);
        x.setDraw(1, 20000);
        x.setDraw(2, 20000);
        x.setSpeed(20000, 5000);
        x.loadRoll(10000000);
        due.is("run(300), both spans too tight", 1, x.run(300));
        due.holds("measure(1, 0) is too great too", x.measure(1, 0) > 1300);
        due.is("breakAt(), the first one", 0, x.breakAt());
        due.is("value(7)", 1, x.value(7));
    }
}

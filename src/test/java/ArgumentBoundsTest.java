/**
 * The sentences that give an argument a range: the last legal value and the first refused one at
 * both ends, then what the last legal values do.
 */
public final class ArgumentBoundsTest {
    private static final int PLACE = WebTensionLine.NO_SUCH_PLACE;
    private static final int BAD = WebTensionLine.BAD_VALUE;
    private static final int NONE = WebTensionLine.NONE;
    private static final long NO_VALUE = WebTensionLine.NO_VALUE;
    private static final Due due = new Due();

    private interface Call {
        long on(WebTensionLine x, int value);
    }

    public static void main(String[] args) {
        theLine();
        controllers();
        theWeb();
        operation();
        readings();
        forecasts();
        lengthsOfSpans();
        travels();
        forcesAndMobilities();
        gainsOfDancers();
        wantedTensionsAndGains();
        stiffnesses();
        woundInTensions();
        theLeastStrength();
        theGreatestStrength();
        spliceStrengths();
        draws();
        speedsAndRamps();
        spliceSpeeds();
        theGreatestTrigger();
        rolls();
        rollLengths();
        due.end();
    }

    /** Three spans at time 0, a dancer in the last one, and web on the unwinder. */
    private static WebTensionLine threeSpans() {
        WebTensionLine x = new WebTensionLine();
        x.reset(400000);
        x.addSpan(300000);
        x.addSpan(200000);
        x.setDancer(2, 1000, 0, 1, 0, 0);
        x.setSpeed(4000, 900);
        x.loadRoll(90000000);
        return x;
    }

    /** What the call answers at the least and the most legal value, and beyond them. */
    private static void range(String argument, int least, long atLeast, int most, long atMost,
            long refusal, Call call) {
        due.topic(argument + ", " + least + " to " + most);
        due.is("the least", atLeast, call.on(threeSpans(), least));
        due.is("the most", atMost, call.on(threeSpans(), most));
        for (int wrong : new int[] {least - 1, most + 1, Integer.MIN_VALUE, Integer.MAX_VALUE}) {
            due.is("refused: " + wrong, refusal, call.on(threeSpans(), wrong));
        }
    }

    private static void theLine() {
        range("reset, length", 100000, 0, 10000000, 0, BAD, (x, v) -> x.reset(v));
        range("addSpan, length", 100000, 3, 10000000, 3, BAD, (x, v) -> x.addSpan(v));
    }

    private static void controllers() {
        range("setDancer, span", 0, 0, 2, 1, PLACE, (x, v) -> x.setDancer(v, 8, 8, 8, 8, 8));
        range("setDancer, travel", 2, 0, 100000, 0, BAD, (x, v) -> x.setDancer(0, v, 8, 8, 8, 8));
        range("setDancer, force", 0, 0, 1000000, 0, BAD, (x, v) -> x.setDancer(0, 8, v, 8, 8, 8));
        range("setDancer, mobility", 1, 0, 100000, 0, BAD,
                (x, v) -> x.setDancer(0, 8, 8, v, 8, 8));
        range("setDancer, kp", -1000, 0, 1000, 0, BAD, (x, v) -> x.setDancer(0, 8, 8, 8, v, 8));
        range("setDancer, ki", -1000, 0, 1000, 0, BAD, (x, v) -> x.setDancer(0, 8, 8, 8, 8, v));
        range("setLoadCell, span", 0, 0, 2, 1, PLACE, (x, v) -> x.setLoadCell(v, 8, 8));
        range("setLoadCell, wanted", 0, 0, 1000000, 0, BAD, (x, v) -> x.setLoadCell(0, v, 8));
        range("setLoadCell, gain", -10000, 0, 10000, 0, BAD, (x, v) -> x.setLoadCell(0, 8, v));
    }

    private static void theWeb() {
        range("setWeb, stiffness", 1000, 1, 10000000, 1, BAD, (x, v) -> x.setWeb(v, 0));
        range("setWeb, wound", 0, 0, 100000, 1, BAD, (x, v) -> x.setWeb(1000000, v));
        range("setStrength, strength", 1000, 1, 10000000, 1, BAD, (x, v) -> x.setStrength(v, 500));
        range("setStrength, splice", 1, 1, 1000, 1, BAD, (x, v) -> x.setStrength(1000000, v));
    }

    private static void operation() {
        range("setDraw, roller", 1, 0, 3, 0, PLACE, (x, v) -> x.setDraw(v, 8));
        range("setDraw, draw", -20000, 0, 20000, 0, BAD, (x, v) -> x.setDraw(1, v));
        range("setSpeed, target", 0, 1, 20000, 1, BAD, (x, v) -> x.setSpeed(v, 900));
        range("setSpeed, ramp", 1, 1, 5000, 1, BAD, (x, v) -> x.setSpeed(4000, v));
        range("setSplicing, speed", 0, 1, 20000, 1, BAD, (x, v) -> x.setSplicing(v, 0));
        range("setSplicing, trigger", 0, 0, 100000000, 1, BAD, (x, v) -> x.setSplicing(1000, v));
        range("loadRoll, length", 1, 1, 1000000000, 1, BAD, (x, v) -> x.loadRoll(v));
        range("setRollLength, length", 100000, 1000000000, 1000000000, 1000000000, BAD,
                (x, v) -> x.setRollLength(v));
        range("run, ticks", 1, 0, 300, 0, BAD, (x, v) -> x.run(v));
    }

    private static void readings() {
        range("value, what", 0, 0, 7, 0, BAD, (x, v) -> x.value(v));
        range("measure, span", 0, 400000, 2, 201000, NO_VALUE, (x, v) -> x.measure(v, 2));
        range("measure, what", 0, 0, 7, 0, NO_VALUE, (x, v) -> x.measure(2, v));
        range("measure, what, without a dancer", 0, 0, 5, 0, NO_VALUE, (x, v) -> x.measure(1, v));
        range("roller, roller", 0, 0, 3, 0, NO_VALUE, (x, v) -> x.roller(v, 2));
        range("roller, what", 0, 0, 3, 0, NO_VALUE, (x, v) -> x.roller(1, v));
        range("web, what", 0, 90000000, 2, 0, NO_VALUE, (x, v) -> x.web(v));
        range("event, what", 0, NONE, 2, NONE, BAD, (x, v) -> x.event(0, v));
    }

    private static void forecasts() {
        range("steadyTension, span", 0, 0, 2, 0, PLACE, (x, v) -> x.steadyTension(v));
        range("bestDraw, span", 0, 20000, 2, 20000, PLACE, (x, v) -> x.bestDraw(v, 1000000));
        range("bestDraw, wanted", 0, -20000, 1000000, 20000, BAD, (x, v) -> x.bestDraw(0, v));
        range("forecast, span", 0, 0, 2, 0, NO_VALUE, (x, v) -> x.forecast(v, 300));
        range("forecast, ticks", 1, 0, 300, 0, NO_VALUE, (x, v) -> x.forecast(2, v));
        range("outlook, ticks", 1, 0, 300, 0, BAD, (x, v) -> x.outlook(v));
    }

    /** A span of 100000 with a base speed of 5000 in its first tick. */
    private static WebTensionLine shortSpan() {
        WebTensionLine x = new WebTensionLine();
        x.reset(100000);
        x.setSpeed(5000, 5000);
        x.loadRoll(100000000);
        return x;
    }

    private static void lengthsOfSpans() {
        due.topic("nominal length, 100000 to 10000000");
        for (int length : new int[] {100000, 10000000}) {
            WebTensionLine x = new WebTensionLine();
            x.reset(length);
            x.addSpan(length);
            for (int span = 0; span < 2; span++) {
                due.is("material of span " + span, length, x.measure(span, 1));
                due.is("length of span " + span, length, x.measure(span, 2));
            }
        }
    }

    private static void travels() {
        due.topic("travel: 2 to 100000");
        WebTensionLine x = shortSpan();
        x.setDancer(0, 2, 0, 1, 0, 0);
        due.is("position of 2", 1, x.measure(0, 6));
        due.is("length of 2", 100002, x.measure(0, 2));
        x.setDancer(0, 100000, 0, 1, 0, 0);
        due.is("position of 100000", 50000, x.measure(0, 6));
        due.is("length of 100000", 200000, x.measure(0, 2));
    }

    private static long positionAfterATick(int force, int mobility) {
        WebTensionLine x = shortSpan();
        x.setDancer(0, 10000, force, mobility, 0, 0);
        x.run(1);
        return x.measure(0, 6);
    }

    private static void forcesAndMobilities() {
        due.topic("force: 0 to 1000000, mobility: 1 to 100000");
        due.is("force 0", 5000, positionAfterATick(0, 1));
        due.is("force 1, mobility 1", 5001, positionAfterATick(1, 1));
        due.is("force 1000000, mobility 100000", 5010, positionAfterATick(1000000, 100000));
        due.is("force 999999, mobility 100000", 5009, positionAfterATick(999999, 100000));
        due.is("force 1000000, mobility 99999", 5010, positionAfterATick(1000000, 99999));
        due.is("force 100000, mobility 100000", 5001, positionAfterATick(100000, 100000));
        due.is("force 99999, mobility 100000", 5000, positionAfterATick(99999, 100000));
    }

    /** The position is 500 above the half in tick 1, 1000 in tick 2; its sum is 1500 then. */
    private static long trimAfterTwoTicks(int kp, int ki) {
        WebTensionLine x = shortSpan();
        x.setWeb(1000, 0);
        x.setDancer(0, 10000, 1000000, 1, kp, ki);
        x.run(2);
        due.is("sum", 1500, x.measure(0, 7));
        return x.roller(1, 3);
    }

    private static void gainsOfDancers() {
        due.topic("kp: -1000 to 1000, ki: -1000 to 1000");
        due.is("kp 1000", 1000, trimAfterTwoTicks(1000, 0));
        due.is("kp -1000", -1000, trimAfterTwoTicks(-1000, 0));
        due.is("ki 1000, of 1.5", 1, trimAfterTwoTicks(0, 1000));
        due.is("ki -1000, of -1.5", -2, trimAfterTwoTicks(0, -1000));
    }

    private static long trimAfterATick(int wanted, int gain) {
        WebTensionLine x = shortSpan();
        x.setLoadCell(0, wanted, gain);
        x.run(1);
        return x.roller(1, 3);
    }

    private static void wantedTensionsAndGains() {
        due.topic("wanted: 0 to 1000000, gain: -10000 to 10000");
        due.is("wanted 0", 0, trimAfterATick(0, 10000));
        due.is("wanted 1000000, gain 1", 1, trimAfterATick(1000000, 1));
        due.is("wanted 999999, gain 1", 0, trimAfterATick(999999, 1));
        due.is("wanted 100, gain 10000", 1, trimAfterATick(100, 10000));
        due.is("wanted 100, gain 9999", 0, trimAfterATick(100, 9999));
        due.is("wanted 100000, gain -10000", -1000, trimAfterATick(100000, -10000));
    }

    /** Its material is 99900 after a tick. */
    private static WebTensionLine tightSpan(int stiffness) {
        WebTensionLine x = shortSpan();
        x.setWeb(stiffness, 0);
        x.setDraw(1, 20000);
        return x;
    }

    private static void stiffnesses() {
        due.topic("stiffness: K, 1000 to 10000000");
        WebTensionLine x = tightSpan(1000);
        x.run(1);
        due.is("tension of 1.001", 1, x.measure(0, 0));
        x = tightSpan(10000000);
        x.run(1);
        due.is("tension of 10010.01", 10010, x.measure(0, 0));
    }

    private static void woundInTensions() {
        due.topic("wound: W, 0 to 100000");
        WebTensionLine x = shortSpan();
        x.setWeb(1000000, 0);
        x.run(1);
        due.is("amount of roller 0 without it", 5000, x.roller(0, 0));
        x = shortSpan();
        x.setWeb(1000000, 100000);
        x.run(1);
        due.is("amount of roller 0, 4545.45", 4545, x.roller(0, 0));
        x = shortSpan();
        x.setWeb(1000, 100000);
        x.run(1);
        due.is("amount of roller 0, 49.5", 49, x.roller(0, 0));
    }

    private static void theLeastStrength() {
        due.topic("strength: 1000 to 10000000, the least");
        WebTensionLine x = tightSpan(999998);
        x.setStrength(1000, 500);
        due.is("run(1)", 0, x.run(1));
        due.is("tension", 1000, x.measure(0, 0));
        x = tightSpan(999999);
        x.setStrength(1000, 500);
        due.is("run(1)", 1, x.run(1));
        due.is("tension", 1001, x.measure(0, 0));
    }

    /**
     * A load cell that pulls the more the tighter the web is, and nearly no web that comes in: the
     * web is drawn out to a half of the span and less.
     */
    private static void theGreatestStrength() {
        due.topic("strength: 1000 to 10000000, the most");
        WebTensionLine x = tightSpan(10000000);
        x.setLoadCell(0, 0, -10000);
        x.setStrength(10000000, 500);
        x.run(1);
        x.setSpeed(1, 5000);
        long before = 0;
        for (int tick = 0; tick < 300 && x.value(1) == 0; tick++) {
            before = x.measure(0, 0);
            x.run(1);
        }
        due.holds("the last tension that it bears: " + before, before > 9000000
                && before <= 10000000);
        due.is("value(1)", 1, x.value(1));
        due.holds("the first that it doesn't: " + x.measure(0, 0), x.measure(0, 0) > 10000000);
    }

    private static int stateOfASplice(int stiffness, int splice) {
        WebTensionLine x = new WebTensionLine();
        x.reset(100000);
        x.setWeb(stiffness, 0);
        x.setDraw(1, 20000);
        x.setSpeed(5000, 5000);
        x.setSplicing(20000, 0);
        x.setStrength(1000, splice);
        x.loadRoll(1);
        x.loadRoll(100000000);
        int state = x.run(1);
        due.is("measure(0, 5)", 1, x.measure(0, 5));
        return state;
    }

    private static void spliceStrengths() {
        due.topic("splice: 1 to 1000, thousandths of the strength");
        due.is("1000, tension 1000", 0, stateOfASplice(999998, 1000));
        due.is("1000, tension 1001", 1, stateOfASplice(999999, 1000));
        due.is("999, tension 1000", 1, stateOfASplice(999998, 999));
        due.is("1, tension 1", 0, stateOfASplice(1997, 1));
        due.is("1, tension 2", 1, stateOfASplice(1998, 1));
        due.is("2, tension 2", 0, stateOfASplice(1998, 2));
    }

    private static void draws() {
        due.topic("draw: -20000 to 20000, in millionths");
        WebTensionLine x = shortSpan();
        x.setDraw(1, 20000);
        x.run(1);
        due.is("speed", 5100, x.roller(1, 1));
        x = shortSpan();
        x.setDraw(1, -20000);
        x.run(1);
        due.is("speed", 4900, x.roller(1, 1));
    }

    private static void speedsAndRamps() {
        due.topic("target: 0 to 20000, ramp: 1 to 5000");
        WebTensionLine x = shortSpan();
        x.setSpeed(20000, 5000);
        int[] speeds = {5000, 10000, 15000, 20000, 20000};
        for (int speed : speeds) {
            x.run(1);
            due.is("base speed", speed, x.value(2));
        }
        x.setSpeed(0, 1);
        x.run(1);
        due.is("base speed, down by 1", 19999, x.value(2));
    }

    private static void spliceSpeeds() {
        due.topic("splice speed: 0 to 20000");
        WebTensionLine x = shortSpan();
        x.loadRoll(1);
        x.setSplicing(0, 100000000);
        x.run(1);
        due.is("base speed with 0", 0, x.value(2));
        x.setSpeed(20000, 5000);
        x.setSplicing(20000, 100000000);
        x.run(4);
        due.is("base speed with 20000", 20000, x.value(2));
    }

    private static int speedOfASplice(int roll) {
        WebTensionLine x = new WebTensionLine();
        x.loadRoll(roll);
        x.loadRoll(1);
        x.setSplicing(7, 100000000);
        x.setSpeed(5000, 5000);
        x.run(1);
        return x.value(2);
    }

    private static void theGreatestTrigger() {
        due.topic("trigger: 0 to 100000000");
        due.is("base speed at 100000000", 7, speedOfASplice(100000000));
        due.is("base speed at 100000001", 5000, speedOfASplice(100000001));
    }

    private static void rolls() {
        due.topic("roll: 1 to 1000000000");
        WebTensionLine x = new WebTensionLine();
        x.loadRoll(1);
        x.loadRoll(1000000000);
        due.is("web(0)", 1, x.web(0));
        due.is("web(1)", 1000000000, x.web(1));
        x = new WebTensionLine();
        x.loadRoll(1000000000);
        x.loadRoll(1);
        due.is("web(0)", 1000000000, x.web(0));
        due.is("web(1)", 1, x.web(1));
    }

    private static void rollLengths() {
        due.topic("length of rolls: 100000 to 1000000000");
        WebTensionLine x = shortSpan();
        x.setRollLength(100000);
        x.run(20);
        due.is("value(5) after 100000", 1, x.value(5));
        due.is("the previous length", 100000, x.setRollLength(1000000000));
        due.is("the previous length", 1000000000, x.setRollLength(100000));
    }
}

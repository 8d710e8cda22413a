/**
 * Forecasts tell what the very line would do: on lines where one thing or another decides, tick by
 * tick, beside a twin that runs. The object has forecast quite another line before, so that nothing
 * of that one may stay.
 */
public final class ForecastBoundsTest {
    private static final int OUT = 2;
    private static final int BROKEN = 1;
    private static final int TICKS = 40;
    private static final Due due = new Due();

    private interface Line {
        void build(WebTensionLine x);
    }

    public static void main(String[] args) {
        comesTrue("draws", ForecastBoundsTest::draws);
        comesTrue("the sum of a dancer", ForecastBoundsTest::dancerWithASum);
        comesTrue("kp of a dancer", ForecastBoundsTest::dancerWithoutASum);
        comesTrue("a load cell that is off its wanted tension", ForecastBoundsTest::loadCell);
        comesTrue("six spans", ForecastBoundsTest::sixSpans);
        comesTrue("a roll that ends", ForecastBoundsTest::aRollThatEnds);
        comesTrue("splices to come", ForecastBoundsTest::splicesToCome);
        comesTrue("a splice at too great a speed", ForecastBoundsTest::spliceTooFast);
        comesTrue("a splice that slows the line down", ForecastBoundsTest::slowSplice);
        comesTrue("a line that slows down", ForecastBoundsTest::slowingDown);
        comesTrue("a mark that comes into a tight span", ForecastBoundsTest::markIntoATightSpan);
        aMarkThatLeavesTheLine();
        aMarkThatLeavesASpan();
        aMarkThatWeakensASpan();
        nothingOfAnotherLine();
        due.end();
    }

    /** An object that has forecast a line on which all is otherwise. */
    private static WebTensionLine usedBefore() {
        WebTensionLine x = new WebTensionLine();
        x.reset(7000000);
        for (int span = 1; span < 6; span++) {
            x.addSpan(110000 + 10000 * span);
            x.setDancer(span, 5000, 9000, 3, 900, 800);
        }
        x.setLoadCell(2, 70000, 9000);
        x.setLoadCell(0, 900000, -7000);
        x.setWeb(3000000, 77000);
        x.setStrength(9000000, 900);
        x.setDraw(1, 9000);
        x.setDraw(2, -9000);
        x.setDraw(6, 300);
        x.setSplicing(9000, 70000);
        x.setSpeed(9000, 3000);
        for (int roll = 0; roll < 5; roll++) {
            x.loadRoll(20001 + roll);
        }
        x.run(9);
        x.forecast(3, 20);
        x.outlook(300);
        return x;
    }

    private static WebTensionLine built(WebTensionLine x, Line line) {
        x.reset(100000);
        x.setSpeed(5000, 5000);
        line.build(x);
        return x;
    }

    /** Forecasts of 1, 2, 3 .. ticks, each on its own object, beside a line that is run. */
    private static void comesTrue(String what, Line line) {
        due.topic("forecasts come true: " + what);
        WebTensionLine twin = built(new WebTensionLine(), line);
        int spans = twin.value(3);
        long[] greatest = new long[spans];
        int outlook = 0;
        for (int ticks = 1; ticks <= TICKS; ticks++) {
            if (twin.run(1) != 0 && outlook == 0) {
                outlook = 10 * ticks + twin.value(1);
            }
            due.is("outlook " + ticks, outlook, built(usedBefore(), line).outlook(ticks));
            for (int span = 0; span < spans; span++) {
                greatest[span] = Math.max(greatest[span], twin.measure(span, 0));
                due.is("forecast " + span + " " + ticks, greatest[span],
                        built(usedBefore(), line).forecast(span, ticks));
            }
        }
        for (int span = 0; span < spans; span++) {
            due.holds("a forecast of span " + span + " is no trifle", greatest[span] > 1);
        }
    }

    private static void draws(WebTensionLine x) {
        x.addSpan(150000);
        x.setWeb(4000000, 600);
        x.setDraw(1, 700);
        x.setDraw(2, 5000);
        x.loadRoll(100000000);
    }

    private static void dancerWithASum(WebTensionLine x) {
        x.setWeb(100000, 500);
        x.setDancer(0, 60000, 4000, 5, 0, 1000);
        x.loadRoll(100000000);
        x.run(80);
        due.holds("the sum " + x.measure(0, 7), Math.abs(x.measure(0, 7)) > 100000);
    }

    private static void dancerWithoutASum(WebTensionLine x) {
        x.setWeb(100000, 500);
        x.setDancer(0, 60000, 4000, 5, 200, 0);
        x.loadRoll(100000000);
        x.run(7);
    }

    private static void loadCell(WebTensionLine x) {
        x.addSpan(120000);
        x.setWeb(1000000, 100);
        x.setLoadCell(0, 60000, 400);
        x.setLoadCell(1, 80000, 700);
        x.setDraw(2, 20000);
        x.setStrength(10000000, 500);
        x.loadRoll(100000000);
        x.run(3);
    }

    private static void sixSpans(WebTensionLine x) {
        for (int span = 1; span < 6; span++) {
            x.addSpan(100000 + span);
        }
        x.setDancer(4, 20000, 5000, 2, 300, 400);
        x.setLoadCell(5, 20000, 500);
        x.setWeb(2000000, 3000);
        x.setDraw(3, 1000);
        x.loadRoll(100000000);
        x.run(10);
    }

    private static void aRollThatEnds(WebTensionLine x) {
        x.setDraw(1, 3000);
        x.loadRoll(5000 * 30 - 1);
    }

    private static void splicesToCome(WebTensionLine x) {
        x.setDraw(1, 3000);
        x.setSplicing(5000, 0);
        x.setStrength(100000, 10);
        x.loadRoll(12000);
        x.loadRoll(60000);
        x.loadRoll(9000);
        x.loadRoll(30000);
        x.run(3);
    }

    private static void spliceTooFast(WebTensionLine x) {
        x.setDraw(1, 3000);
        x.setSplicing(4999, 0);
        x.loadRoll(70000);
        x.loadRoll(60000);
        x.run(3);
    }

    private static void slowSplice(WebTensionLine x) {
        x.setWeb(1000000, 900);
        x.setDraw(1, 3000);
        x.setSpeed(5000, 300);
        x.setSplicing(100, 50000);
        x.loadRoll(95000);
        x.loadRoll(100000);
        x.run(10);
    }

    private static void slowingDown(WebTensionLine x) {
        x.setDraw(1, 20000);
        x.loadRoll(100000000);
        x.run(5);
        x.setSpeed(900, 170);
    }

    private static void markIntoATightSpan(WebTensionLine x) {
        x.addSpan(200000);
        x.setWeb(1000000, 10);
        x.setDraw(2, 5000);
        x.setSplicing(20000, 0);
        x.setStrength(7000, 200);
        x.loadRoll(30000);
        x.loadRoll(100000000);
        x.run(8);
    }

    /** The tension of the next tick is 100, and a splice holds 1. */
    private static WebTensionLine beforeTheTight(int spans, int tightRoller, int roll) {
        WebTensionLine x = usedBefore();
        x.reset(100000);
        if (spans == 2) {
            x.addSpan(100000);
        }
        x.setWeb(99900, 0);
        x.setStrength(1000, 1);
        x.setSplicing(20000, 0);
        x.setSpeed(5000, 5000);
        x.loadRoll(roll);
        x.loadRoll(100000000);
        due.is("run(20), without tension", 0, x.run(20));
        x.setDraw(tightRoller, 20000);
        return x;
    }

    private static void aMarkThatLeavesTheLine() {
        due.topic("outlook: a mark that is just at the last roller then");
        due.is("1 before it", 11, beforeTheTight(1, 1, 5101).outlook(1));
        due.is("just at it", 0, beforeTheTight(1, 1, 5100).outlook(1));
        due.is("1 behind it", 0, beforeTheTight(1, 1, 5099).outlook(1));
    }

    private static void aMarkThatLeavesASpan() {
        due.topic("outlook: a mark that is just at roller 1 then, which is behind a tight span");
        due.is("1 before it", 11, beforeTheTight(2, 1, 5101).outlook(1));
        due.is("just at it", 0, beforeTheTight(2, 1, 5100).outlook(1));
        due.is("1 behind it", 0, beforeTheTight(2, 1, 5099).outlook(1));
    }

    private static void aMarkThatWeakensASpan() {
        due.topic("outlook: a mark that is just at roller 1 then, which is before a tight span");
        due.is("1 before it", 0, beforeTheTight(2, 2, 5001).outlook(1));
        due.is("just at it", 11, beforeTheTight(2, 2, 5000).outlook(1));
        due.is("1 behind it", 11, beforeTheTight(2, 2, 4999).outlook(1));
        WebTensionLine x = beforeTheTight(2, 2, 5000);
        due.is("forecast(1, 300)", 100, x.forecast(1, 300));
        due.is("forecast(0, 300)", 0, x.forecast(0, 300));
        due.is("run(1)", BROKEN, x.run(1));
    }

    private static void nothingOfAnotherLine() {
        due.topic("a forecast of a reset line");
        WebTensionLine x = usedBefore();
        x.reset(1000000);
        due.is("outlook(300), standing", 0, x.outlook(300));
        due.is("forecast(0, 300), standing", 0, x.forecast(0, 300));
        x.setSpeed(1, 1);
        due.is("outlook(1), without a roll", 10 + OUT, x.outlook(1));
        due.is("forecast(5, 1), of a span that is gone", WebTensionLine.NO_VALUE,
                x.forecast(5, 1));
        due.holds("it reads as a new one",
                Readings.of(standing()).equals(Readings.of(x)));
    }

    private static WebTensionLine standing() {
        WebTensionLine x = new WebTensionLine();
        x.setSpeed(1, 1);
        return x;
    }
}

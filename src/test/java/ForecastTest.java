/** Promises 23 to 26: forecasts. */
public final class ForecastTest {
    private static final int PLACE = WebTensionLine.NO_SUCH_PLACE;
    private static final int BAD = WebTensionLine.BAD_VALUE;
    private static final int NONE = WebTensionLine.NONE;
    private static final long NO_VALUE = WebTensionLine.NO_VALUE;
    private static final Due due = new Due();

    public static void main(String[] args) {
        steadyTension();
        steadyTensionOfTheTarget();
        bestDraw();
        bestDrawOfSeveral();
        forecast();
        forecastOfTheGreatest();
        forecastWhenStopped();
        outlook();
        outlookWhenStopped();
        forecastsComeTrue();
        aSpliceToCome();
        nothingChanges();
        due.end();
    }

    private static void steadyTension() {
        due.topic("promise 23");
        WebTensionLine x = new WebTensionLine();
        x.addSpan(300000);
        due.is("target 0", NONE, x.steadyTension(0));
        due.is("span 2, target 0", PLACE, x.steadyTension(2));
        x.setWeb(2000000, 500);
        x.setDraw(1, 800);
        x.setDraw(2, -300);
        x.setSpeed(4000, 900);
        due.is("span 0, 2000.375", 2000, x.steadyTension(0));
        due.is("span 1, speed 4001", 1000, x.steadyTension(1));
        x.setDraw(2, -20000);
        due.is("span 1, at least 0", 0, x.steadyTension(1));
        due.is("span -1", PLACE, x.steadyTension(-1));
        due.is("span 2", PLACE, x.steadyTension(2));
        due.is("span 6", PLACE, x.steadyTension(6));
        x.setDraw(2, 20000);
        x.setDraw(1, 20000);
        x.setSpeed(20000, 1);
        due.is("span 1, speed 20808", 81320, x.steadyTension(1));
    }

    private static void steadyTensionOfTheTarget() {
        WebTensionLine x = new WebTensionLine();
        x.setDancer(0, 10000, 2000, 10, 100, 10);
        x.setDraw(1, 1000);
        x.setSpeed(1000, 1);
        x.loadRoll(1000000);
        x.run(3);
        due.is("neither base speed nor trim", 1000, x.steadyTension(0));
        x.setSpeed(0, 1);
        due.is("target 0 while it runs", NONE, x.steadyTension(0));
    }

    private static void bestDraw() {
        due.topic("promise 24");
        WebTensionLine x = new WebTensionLine();
        x.addSpan(300000);
        due.is("target 0", NONE, x.bestDraw(0, 5));
        due.is("wanted -1, target 0", BAD, x.bestDraw(0, -1));
        x.setSpeed(20000, 100);
        due.is("span -1", PLACE, x.bestDraw(-1, 5));
        due.is("span 2", PLACE, x.bestDraw(2, 5));
        due.is("span 2, wanted -1", PLACE, x.bestDraw(2, -1));
        due.is("wanted -1", BAD, x.bestDraw(0, -1));
        due.is("wanted 1000001", BAD, x.bestDraw(0, 1000001));
        due.is("wanted 1000", 1000, x.bestDraw(0, 1000));
        due.is("wanted 1000000", 20000, x.bestDraw(0, 1000000));
        due.is("roller(1, 2) stays", 0, x.roller(1, 2));
        x.setDraw(1, 500);
        x.setDraw(2, 900);
        due.is("wanted 1500 behind a draw", 1000, x.bestDraw(1, 1500));
        due.is("wanted 250 behind a draw, speed 20005.998", -200, x.bestDraw(1, 250));
        due.is("the draw itself and the later ones count nothing", 1000, x.bestDraw(0, 1000));
        due.is("roller(1, 2) stays", 500, x.roller(1, 2));
        due.is("roller(2, 2) stays", 900, x.roller(2, 2));
    }

    private static void bestDrawOfSeveral() {
        WebTensionLine x = new WebTensionLine();
        x.setSpeed(1000, 100);
        due.is("wanted 0, many draws give 0", -20000, x.bestDraw(0, 0));
        due.is("wanted 500, just between 0 and 1000", -20000, x.bestDraw(0, 500));
        due.is("wanted 501", 1000, x.bestDraw(0, 501));
        due.is("wanted 1000, many draws give it", 1000, x.bestDraw(0, 1000));
        due.is("wanted 20000", 20000, x.bestDraw(0, 20000));
        due.is("wanted 19000", 19000, x.bestDraw(0, 19000));
    }

    /** Its tension is 20, 39 in the first two ticks. */
    private static WebTensionLine tightening() {
        WebTensionLine x = new WebTensionLine();
        x.setDraw(1, 20000);
        x.setSpeed(1000, 1000);
        x.loadRoll(1000000);
        return x;
    }

    private static void forecast() {
        due.topic("promise 25");
        WebTensionLine x = tightening();
        due.is("forecast(0, 1)", 20, x.forecast(0, 1));
        due.is("forecast(0, 2)", 39, x.forecast(0, 2));
        due.is("forecast(0, 1) again", 20, x.forecast(0, 1));
        for (int wrong : new int[] {Integer.MIN_VALUE, -1, 6, Integer.MAX_VALUE}) {
            due.is("span " + wrong, NO_VALUE, x.forecast(wrong, 1));
        }
        due.is("span 1", NO_VALUE, x.forecast(1, 1));
        for (int wrong : new int[] {Integer.MIN_VALUE, -1, 0, 301, Integer.MAX_VALUE}) {
            due.is("ticks " + wrong, NO_VALUE, x.forecast(0, wrong));
        }
        due.is("value(0)", 0, x.value(0));
        due.is("measure(0, 3)", 0, x.measure(0, 3));
        long ahead = x.forecast(0, 300);
        x.run(300);
        due.is("the greatest one came true", ahead, x.measure(0, 3));
    }

    private static void forecastOfTheGreatest() {
        WebTensionLine x = tightening();
        x.run(2);
        x.setDraw(1, -20000);
        due.is("measure(0, 0)", 39, x.measure(0, 0));
        due.is("forecast(0, 1), not the present one", 18, x.forecast(0, 1));
        due.is("forecast(0, 300), not the last one", 18, x.forecast(0, 300));
    }

    private static void forecastWhenStopped() {
        WebTensionLine x = tightening();
        x.setSpeed(20000, 5000);
        x.setStrength(1360, 1);
        due.is("forecast(0, 300), up to the break", 1361, x.forecast(0, 300));
        due.is("forecast(0, 4)", 980, x.forecast(0, 4));
        x.run(300);
        x.setStrength(1000000, 1);
        due.is("forecast(0, 300), broken", 1361, x.forecast(0, 300));
        due.is("forecast(0, 301), broken", NO_VALUE, x.forecast(0, 301));
        due.is("forecast(1, 1), broken", NO_VALUE, x.forecast(1, 1));
        x.thread();
        due.is("forecast(0, 1), threaded", 100, x.forecast(0, 1));
    }

    private static void outlook() {
        due.topic("promise 26");
        WebTensionLine x = tightening();
        x.setSpeed(20000, 5000);
        x.setStrength(1360, 1);
        due.is("outlook(4)", 0, x.outlook(4));
        due.is("outlook(5)", 51, x.outlook(5));
        due.is("outlook(300)", 51, x.outlook(300));
        x.run(2);
        due.is("outlook(300) after 2", 31, x.outlook(300));
        due.is("value(1)", 0, x.value(1));
        for (int wrong : new int[] {Integer.MIN_VALUE, -1, 0, 301, Integer.MAX_VALUE}) {
            due.is("ticks " + wrong, BAD, x.outlook(wrong));
        }
        x = new WebTensionLine();
        x.setSpeed(1000, 1000);
        x.loadRoll(1000);
        due.is("outlook(1), web used up", 0, x.outlook(1));
        due.is("outlook(2), out of web", 22, x.outlook(2));
        x.loadRoll(1000000);
        due.is("outlook(300), spliced", 0, x.outlook(300));
        x.setSplicing(999, 0);
        due.is("outlook(300), slowed down for the splice", 0, x.outlook(300));
        x.setSpeed(5000, 5000);
        due.is("outlook(300), spliced too fast", 11, x.outlook(300));
    }

    private static void outlookWhenStopped() {
        WebTensionLine x = new WebTensionLine();
        x.setSpeed(1000, 1000);
        x.loadRoll(500);
        x.run(5);
        due.is("outlook(300), out of web", 2, x.outlook(300));
        due.is("outlook(0), out of web", BAD, x.outlook(0));
        WebTensionLine y = tightening();
        y.setSpeed(20000, 5000);
        y.setStrength(1360, 1);
        y.run(5);
        due.is("outlook(1), broken", 1, y.outlook(1));
        due.is("outlook(301), broken", BAD, y.outlook(301));
    }

    /** A line on which every part is in use. */
    private static WebTensionLine busy() {
        WebTensionLine x = new WebTensionLine();
        x.addSpan(100000);
        x.addSpan(200000);
        x.setDancer(0, 10000, 2000, 10, 100, 10);
        x.setLoadCell(2, 1500, 2000);
        x.setWeb(1000000, 200);
        x.setDraw(2, 500);
        x.setSplicing(3000, 50000);
        x.setRollLength(100000);
        x.setSpeed(4000, 1000);
        x.loadRoll(90000);
        x.loadRoll(60000);
        x.loadRoll(700000);
        x.run(40);
        return x;
    }

    private static void forecastsComeTrue() {
        due.topic("promise 25, as it comes");
        WebTensionLine x = busy();
        long[] ahead = new long[3];
        long[] most = new long[3];
        for (int i = 0; i < 3; i++) {
            ahead[i] = x.forecast(i, 100);
        }
        for (int tick = 0; tick < 100; tick++) {
            x.run(1);
            for (int i = 0; i < 3; i++) {
                most[i] = Math.max(most[i], x.measure(i, 0));
            }
        }
        for (int i = 0; i < 3; i++) {
            due.is("forecast of span " + i, most[i], ahead[i]);
        }
    }

    /** A mark that is in the line already breaks it when the tension has come to half the strength. */
    private static void aSpliceToCome() {
        due.topic("promise 26, with a mark");
        WebTensionLine x = new WebTensionLine();
        x.setDraw(1, 20000);
        x.setSpeed(20000, 5000);
        x.setSplicing(20000, 0);
        x.loadRoll(40000);
        x.loadRoll(1000000);
        x.run(4);
        due.is("value(4)", 1, x.value(4));
        due.is("outlook(1), strong enough", 0, x.outlook(1));
        x.setStrength(2721, 500);
        due.is("outlook(1), 1361 is more than 1360", 11, x.outlook(1));
        x.setStrength(2721, 501);
        due.is("outlook(1), 1361 is not more than 1363", 0, x.outlook(1));
    }

    private static void nothingChanges() {
        due.topic("promises 25 and 26, nothing changes");
        WebTensionLine x = busy();
        WebTensionLine y = busy();
        due.is("value(4): a mark is in the line", 1, y.value(4));
        long ahead = y.forecast(2, 200);
        int then = y.outlook(300);
        y.forecast(0, 300);
        due.holds("readings", Readings.of(x).equals(Readings.of(y)));
        due.is("outlook again", then, y.outlook(300));
        due.is("forecast again", ahead, y.forecast(2, 200));
        x.run(150);
        y.run(150);
        due.holds("readings later", Readings.of(x).equals(Readings.of(y)));
        due.is("outlook came true", then, then == 0 ? 0 : x.outlook(150) + 1500);
    }
}

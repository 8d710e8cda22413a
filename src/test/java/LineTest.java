/** Promises 1 to 7: a new object, and what the line is made of. */
public final class LineTest {
    private static final int PLACE = WebTensionLine.NO_SUCH_PLACE;
    private static final int BAD = WebTensionLine.BAD_VALUE;
    private static final int NOT_NOW = WebTensionLine.NOT_NOW;
    private static final long NO_VALUE = WebTensionLine.NO_VALUE;
    private static final Due due = new Due();

    public static void main(String[] args) {
        aNewObject();
        resetStartsAnew();
        resetRefuses();
        addSpan();
        addSpanRefuses();
        setDancer();
        setDancerRefuses();
        setLoadCell();
        setLoadCellRefuses();
        setWeb();
        setStrength();
        due.end();
    }

    private static WebTensionLine afterOneTick() {
        WebTensionLine x = new WebTensionLine();
        x.run(1);
        return x;
    }

    private static void aNewObject() {
        due.topic("promise 1");
        looksNew(new WebTensionLine(), 1000000);
        hasFirstSettings(new WebTensionLine());
    }

    private static void looksNew(WebTensionLine x, int length) {
        for (int what = 0; what <= 7; what++) {
            due.is("value " + what, what == 3 ? 1 : 0, x.value(what));
        }
        due.is("breakAt()", WebTensionLine.NONE, x.breakAt());
        due.is("slackSpans()", 0, x.slackSpans());
        due.is("event(0, 0)", WebTensionLine.NONE, x.event(0, 0));
        due.is("markDistance(0)", NO_VALUE, x.markDistance(0));
        due.is("measure(0, 1)", length, x.measure(0, 1));
        due.is("measure(0, 2)", length, x.measure(0, 2));
        for (int what : new int[] {0, 3, 4, 5}) {
            due.is("measure 0 " + what, 0, x.measure(0, what));
        }
        due.is("measure(0, 6)", NO_VALUE, x.measure(0, 6));
        due.is("measure(0, 7)", NO_VALUE, x.measure(0, 7));
        due.is("measure(1, 0)", NO_VALUE, x.measure(1, 0));
        for (int what = 0; what <= 3; what++) {
            due.is("roller 0 " + what, 0, x.roller(0, what));
            due.is("roller 1 " + what, 0, x.roller(1, what));
        }
        for (int what = 0; what <= 2; what++) {
            due.is("web " + what, 0, x.web(what));
        }
        due.is("steadyTension(0)", WebTensionLine.NONE, x.steadyTension(0));
    }

    /** Setting what is set already tells what it was. */
    private static void hasFirstSettings(WebTensionLine x) {
        due.is("setWeb", 0, x.setWeb(1000000, 0));
        due.is("setStrength", 0, x.setStrength(1000000, 500));
        due.is("setSpeed", 0, x.setSpeed(0, 100));
        due.is("setSplicing", 0, x.setSplicing(1000, 0));
        due.is("setRollLength", 1000000000, x.setRollLength(1000000000));
        due.is("setDraw", 0, x.setDraw(1, 0));
        due.is("setLoadCell: no controller before", 0, x.setLoadCell(0, 0, 0));
    }

    /** A line on which every setting and every count is another than at first. */
    private static WebTensionLine used() {
        WebTensionLine x = new WebTensionLine();
        x.addSpan(100000);
        x.setDancer(0, 1000, 3000, 10, 50, 50);
        x.setLoadCell(1, 5000, 4000);
        x.setWeb(2000000, 300);
        x.setStrength(900000, 400);
        x.setDraw(1, 700);
        x.setDraw(2, 900);
        x.setSpeed(4000, 2000);
        x.setSplicing(5000, 100);
        x.loadRoll(50000);
        x.loadRoll(200000);
        x.loadRoll(100);
        x.setRollLength(100000);
        x.run(45);
        x.setStrength(1000, 1);
        x.run(300);
        return x;
    }

    private static void resetStartsAnew() {
        due.topic("promise 2");
        WebTensionLine x = used();
        due.is("value(1) before", 1, x.value(1));
        int passed = x.value(0);
        due.is("reset(300000)", passed, x.reset(300000));
        looksNew(x, 300000);
        due.is("addSpan after reset", 1, x.addSpan(200000));
        due.is("roller(2, 0) of the new span", 0, x.roller(2, 0));
        due.is("roller(2, 2) of the new span", 0, x.roller(2, 2));
        due.is("roller(2, 3) of the new span", 0, x.roller(2, 3));
        due.is("measure(1, 0) of the new span", 0, x.measure(1, 0));
        due.is("measure(1, 1) of the new span", 200000, x.measure(1, 1));
        due.is("measure(1, 3) of the new span", 0, x.measure(1, 3));
        due.is("measure(1, 4) of the new span", 0, x.measure(1, 4));
        due.is("new span has no controller", 0, x.setLoadCell(1, 0, 0));
        due.is("reset again", 0, x.reset(1000000));
        hasFirstSettings(x);
        x = used();
        x.reset(1000000);
        due.holds("a reset line reads like a new one",
                Readings.of(x).equals(Readings.of(new WebTensionLine())));
    }

    private static void resetRefuses() {
        WebTensionLine x = used();
        String before = Readings.of(x);
        for (int length : new int[] {99999, 10000001, 0, -1, Integer.MIN_VALUE, Integer.MAX_VALUE}) {
            due.is("reset " + length, BAD, x.reset(length));
        }
        due.holds("a refused reset changes nothing", before.equals(Readings.of(x)));
        due.is("reset(100000)", x.value(0), x.reset(100000));
        due.is("reset(10000000)", 0, x.reset(10000000));
        due.is("measure(0, 1)", 10000000, x.measure(0, 1));
    }

    private static void addSpan() {
        due.topic("promise 3");
        WebTensionLine x = new WebTensionLine();
        x.setDraw(1, 500);
        due.is("addSpan(100000)", 1, x.addSpan(100000));
        due.is("measure(1, 1)", 100000, x.measure(1, 1));
        due.is("measure(1, 2)", 100000, x.measure(1, 2));
        due.is("roller(1, 2) keeps its draw", 500, x.roller(1, 2));
        due.is("roller(2, 2)", 0, x.roller(2, 2));
        due.is("addSpan(10000000)", 2, x.addSpan(10000000));
        due.is("addSpan 3", 3, x.addSpan(300000));
        due.is("addSpan 4", 4, x.addSpan(400000));
        due.is("addSpan 5", 5, x.addSpan(500000));
        due.is("value(3)", 6, x.value(3));
        due.is("addSpan 6", WebTensionLine.FULL, x.addSpan(500000));
        due.is("value(3)", 6, x.value(3));
        due.is("measure(5, 2)", 500000, x.measure(5, 2));
        due.is("measure(6, 2)", NO_VALUE, x.measure(6, 2));
        due.is("addSpan: BAD_VALUE before FULL", BAD, x.addSpan(99999));
        x.run(1);
        due.is("addSpan: NOT_NOW before FULL", NOT_NOW, x.addSpan(100000));
    }

    private static void addSpanRefuses() {
        WebTensionLine x = afterOneTick();
        due.is("addSpan: BAD_VALUE before NOT_NOW", BAD, x.addSpan(10000001));
        due.is("addSpan after a tick", NOT_NOW, x.addSpan(100000));
        due.is("value(3)", 1, x.value(3));
        WebTensionLine y = new WebTensionLine();
        for (int length : new int[] {99999, 10000001, 0, -5, Integer.MIN_VALUE, Integer.MAX_VALUE}) {
            due.is("addSpan " + length, BAD, y.addSpan(length));
        }
        due.is("value(3)", 1, y.value(3));
    }

    private static void setDancer() {
        due.topic("promise 4");
        WebTensionLine x = new WebTensionLine();
        due.is("setDancer, odd travel", 0, x.setDancer(0, 20001, 2000, 10, 100, 10));
        due.is("measure(0, 6)", 10000, x.measure(0, 6));
        due.is("measure(0, 7)", 0, x.measure(0, 7));
        due.is("measure(0, 2)", 1020000, x.measure(0, 2));
        due.is("measure(0, 1)", 1020000, x.measure(0, 1));
        due.is("measure(0, 0)", 0, x.measure(0, 0));
        due.is("setDancer, least", 1, x.setDancer(0, 2, 0, 1, -1000, -1000));
        due.is("measure(0, 6)", 1, x.measure(0, 6));
        due.is("measure(0, 1)", 1000002, x.measure(0, 1));
        due.is("setDancer, most", 1, x.setDancer(0, 100000, 1000000, 100000, 1000, 1000));
        due.is("measure(0, 6)", 50000, x.measure(0, 6));
        due.is("setLoadCell instead", 1, x.setLoadCell(0, 5, 5));
        due.is("measure(0, 2)", 1000000, x.measure(0, 2));
        due.is("measure(0, 6)", NO_VALUE, x.measure(0, 6));
        due.is("setDancer instead", 1, x.setDancer(0, 4, 0, 1, 0, 0));
        due.is("measure(0, 2)", 1000004, x.measure(0, 2));
        x.addSpan(100000);
        due.is("setDancer on another span", 0, x.setDancer(1, 10, 0, 1, 0, 0));
        due.is("measure(0, 6)", 2, x.measure(0, 6));
        due.is("measure(1, 6)", 5, x.measure(1, 6));
    }

    private static void setDancerRefuses() {
        WebTensionLine x = new WebTensionLine();
        String before = Readings.of(x);
        due.is("span -1", PLACE, x.setDancer(-1, 10, 10, 10, 10, 10));
        due.is("span 1", PLACE, x.setDancer(1, 10, 10, 10, 10, 10));
        due.is("span 6", PLACE, x.setDancer(6, 10, 10, 10, 10, 10));
        due.is("span and value", PLACE, x.setDancer(1, 0, 10, 10, 10, 10));
        due.is("travel 1", BAD, x.setDancer(0, 1, 10, 10, 10, 10));
        due.is("travel 100001", BAD, x.setDancer(0, 100001, 10, 10, 10, 10));
        due.is("force -1", BAD, x.setDancer(0, 10, -1, 10, 10, 10));
        due.is("force 1000001", BAD, x.setDancer(0, 10, 1000001, 10, 10, 10));
        due.is("mobility 0", BAD, x.setDancer(0, 10, 10, 0, 10, 10));
        due.is("mobility 100001", BAD, x.setDancer(0, 10, 10, 100001, 10, 10));
        due.is("kp -1001", BAD, x.setDancer(0, 10, 10, 10, -1001, 10));
        due.is("kp 1001", BAD, x.setDancer(0, 10, 10, 10, 1001, 10));
        due.is("ki -1001", BAD, x.setDancer(0, 10, 10, 10, 10, -1001));
        due.is("ki 1001", BAD, x.setDancer(0, 10, 10, 10, 10, 1001));
        due.holds("refused dancers change nothing", before.equals(Readings.of(x)));
        due.is("setDancer: none before", 0, x.setDancer(0, 10, 10, 10, 10, 10));
        WebTensionLine y = afterOneTick();
        due.is("after a tick", NOT_NOW, y.setDancer(0, 10, 10, 10, 10, 10));
        due.is("NO_SUCH_PLACE before NOT_NOW", PLACE, y.setDancer(1, 10, 10, 10, 10, 10));
        due.is("BAD_VALUE before NOT_NOW", BAD, y.setDancer(0, 10, 10, 10, 10, 1001));
        due.is("measure(0, 6)", NO_VALUE, y.measure(0, 6));
    }

    private static void setLoadCell() {
        due.topic("promise 5");
        WebTensionLine x = new WebTensionLine();
        due.is("setLoadCell, least", 0, x.setLoadCell(0, 0, -10000));
        due.is("setLoadCell, most", 1, x.setLoadCell(0, 1000000, 10000));
        due.is("measure(0, 1)", 1000000, x.measure(0, 1));
        due.is("measure(0, 6)", NO_VALUE, x.measure(0, 6));
        due.is("measure(0, 7)", NO_VALUE, x.measure(0, 7));
        x.setDancer(0, 10000, 0, 1, 0, 0);
        due.is("setLoadCell after a dancer", 1, x.setLoadCell(0, 1000, 100));
        due.is("measure(0, 1)", 1000000, x.measure(0, 1));
        due.is("measure(0, 2)", 1000000, x.measure(0, 2));
    }

    private static void setLoadCellRefuses() {
        WebTensionLine x = new WebTensionLine();
        x.addSpan(100000);
        due.is("span -1", PLACE, x.setLoadCell(-1, 10, 10));
        due.is("span 2", PLACE, x.setLoadCell(2, 10, 10));
        due.is("span and value", PLACE, x.setLoadCell(2, -1, 10));
        due.is("wanted -1", BAD, x.setLoadCell(0, -1, 10));
        due.is("wanted 1000001", BAD, x.setLoadCell(0, 1000001, 10));
        due.is("gain -10001", BAD, x.setLoadCell(0, 10, -10001));
        due.is("gain 10001", BAD, x.setLoadCell(0, 10, 10001));
        due.is("setLoadCell: none before", 0, x.setLoadCell(0, 10, 10));
        due.is("setLoadCell: none before", 0, x.setLoadCell(1, 10, 10));
        x.run(1);
        due.is("after a tick", NOT_NOW, x.setLoadCell(0, 10, 10));
        due.is("NO_SUCH_PLACE before NOT_NOW", PLACE, x.setLoadCell(2, 10, 10));
        due.is("BAD_VALUE before NOT_NOW", BAD, x.setLoadCell(0, 10, 10001));
    }

    private static void setWeb() {
        due.topic("promise 6");
        WebTensionLine x = new WebTensionLine();
        due.is("setWeb: both as before", 0, x.setWeb(1000000, 0));
        due.is("setWeb: stiffness", 1, x.setWeb(1000, 0));
        due.is("setWeb: wound", 1, x.setWeb(1000, 100000));
        due.is("setWeb: both", 1, x.setWeb(10000000, 0));
        due.is("setWeb: none", 0, x.setWeb(10000000, 0));
        due.is("stiffness 999", BAD, x.setWeb(999, 0));
        due.is("stiffness 10000001", BAD, x.setWeb(10000001, 0));
        due.is("wound -1", BAD, x.setWeb(1000, -1));
        due.is("wound 100001", BAD, x.setWeb(1000, 100001));
        due.is("setWeb: refused ones changed nothing", 0, x.setWeb(10000000, 0));
        x.setWeb(1000000, 100000);
        x.loadRoll(100000);
        x.setSpeed(1100, 1100);
        x.run(1);
        due.is("roller(0, 0), of v * K / (K + W)", 1000, x.roller(0, 0));
        due.is("measure(0, 1)", 999900, x.measure(0, 1));
        due.is("measure(0, 0), of K * (L - U) / U", 100, x.measure(0, 0));
        due.is("after a tick", NOT_NOW, x.setWeb(1000000, 100000));
        due.is("BAD_VALUE before NOT_NOW", BAD, x.setWeb(999, 0));
    }

    private static void setStrength() {
        due.topic("promise 7");
        WebTensionLine x = new WebTensionLine();
        due.is("setStrength: both as before", 0, x.setStrength(1000000, 500));
        due.is("setStrength: strength", 1, x.setStrength(1000, 500));
        due.is("setStrength: splice", 1, x.setStrength(1000, 1));
        due.is("setStrength: both", 1, x.setStrength(10000000, 1000));
        due.is("strength 999", BAD, x.setStrength(999, 500));
        due.is("strength 10000001", BAD, x.setStrength(10000001, 500));
        due.is("splice 0", BAD, x.setStrength(1000, 0));
        due.is("splice 1001", BAD, x.setStrength(1000, 1001));
        due.is("setStrength: refused ones changed nothing", 0, x.setStrength(10000000, 1000));
        x.run(1);
        due.is("setStrength while it runs", 1, x.setStrength(1000, 500));
    }
}

/** The three examples of the document. */
public final class ExamplesTest {
    private static final Due due = new Due();

    public static void main(String[] args) {
        twoSpansWithADraw();
        aSpliceAndTheEndOfTheWeb();
        aDancerAndABreak();
        due.end();
    }

    private static void twoSpansWithADraw() {
        due.topic("example 1");
        WebTensionLine x = new WebTensionLine();
        due.is("addSpan", 1, x.addSpan(500000));
        due.is("setDraw", 0, x.setDraw(1, 1000));
        due.is("setSpeed", 1, x.setSpeed(2000, 500));
        due.is("loadRoll", 0, x.loadRoll(1000000));
        due.is("run(3)", 0, x.run(3));
        due.is("value(2)", 1500, x.value(2));
        due.is("roller(1, 1)", 1501, x.roller(1, 1));
        due.is("measure(0, 0)", 1, x.measure(0, 0));
        due.is("measure(1, 1)", 499999, x.measure(1, 1));
        due.is("web(0)", 997000, x.web(0));
        due.is("steadyTension(0)", 1000, x.steadyTension(0));
        due.is("bestDraw(1, 500)", -450, x.bestDraw(1, 500));
        due.is("run(200)", 0, x.run(200));
        due.is("measure(0, 0)", 201, x.measure(0, 0));
        due.is("forecast(1, 300)", 2, x.forecast(1, 300));
        due.is("outlook(300)", 2992, x.outlook(300));
    }

    private static void aSpliceAndTheEndOfTheWeb() {
        due.topic("example 2");
        WebTensionLine x = new WebTensionLine();
        due.is("loadRoll(3000)", 0, x.loadRoll(3000));
        due.is("loadRoll(50000)", 1, x.loadRoll(50000));
        due.is("setSplicing", 1, x.setSplicing(500, 2000));
        due.is("setSpeed", 1, x.setSpeed(1000, 1000));
        due.is("run(2)", 0, x.run(2));
        due.is("value(2)", 500, x.value(2));
        due.is("run(2)", 0, x.run(2));
        due.is("value(4)", 0, x.value(4));
        due.is("event(0, 1)", WebTensionLine.NONE, x.event(0, 1));
        due.is("markDistance(0)", WebTensionLine.NO_VALUE, x.markDistance(0));
        due.is("measure(0, 5)", 0, x.measure(0, 5));
        due.is("run(100)", 2, x.run(100));
        due.is("value(1)", 2, x.value(1));
        due.is("event(1, 1)", 2, x.event(1, 1));
        due.is("thread()", 1, x.thread());
        due.is("web(0)", 0, x.web(0));
    }

    private static void aDancerAndABreak() {
        due.topic("example 3");
        WebTensionLine x = new WebTensionLine();
        due.is("setDancer", 0, x.setDancer(0, 10000, 2000, 10, 100, 10));
        due.is("measure(0, 6)", 5000, x.measure(0, 6));
        due.is("measure(0, 2)", 1010000, x.measure(0, 2));
        due.is("loadRoll", 0, x.loadRoll(100000000));
        due.is("setSpeed", 1, x.setSpeed(3000, 1000));
        due.is("run(50)", 0, x.run(50));
        due.is("measure(0, 6)", 5080, x.measure(0, 6));
        due.is("measure(0, 0)", 1005, x.measure(0, 0));
        due.is("roller(1, 3)", 8, x.roller(1, 3));
        due.is("addSpan", WebTensionLine.NOT_NOW, x.addSpan(200000));
        due.is("setWeb", WebTensionLine.NOT_NOW, x.setWeb(5000, 0));
        due.is("setStrength", 1, x.setStrength(1000, 500));
        due.is("setDraw", 0, x.setDraw(1, 20000));
        due.is("run(300)", 1, x.run(300));
        due.is("value(1)", 1, x.value(1));
        due.is("breakAt()", 0, x.breakAt());
    }
}

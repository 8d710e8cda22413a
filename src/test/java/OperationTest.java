/** Promises 8 to 12 and 14: how the line is operated. */
public final class OperationTest {
    private static final int PLACE = WebTensionLine.NO_SUCH_PLACE;
    private static final int BAD = WebTensionLine.BAD_VALUE;
    private static final Due due = new Due();

    public static void main(String[] args) {
        setDraw();
        setSpeed();
        setSplicing();
        loadRoll();
        loadRollBehindAnEmptyOne();
        setRollLength();
        threadRefuses();
        threadAfterABreak();
        threadKeepsTheRest();
        threadAfterTheWebEnds();
        due.end();
    }

    private static void setDraw() {
        due.topic("promise 8");
        WebTensionLine x = new WebTensionLine();
        x.addSpan(100000);
        due.is("setDraw(1, 20000)", 0, x.setDraw(1, 20000));
        due.is("setDraw(1, -20000)", 20000, x.setDraw(1, -20000));
        due.is("setDraw(2, 7)", 0, x.setDraw(2, 7));
        due.is("setDraw(1, 5)", -20000, x.setDraw(1, 5));
        due.is("roller 0", PLACE, x.setDraw(0, 5));
        due.is("roller -1", PLACE, x.setDraw(-1, 5));
        due.is("roller 3", PLACE, x.setDraw(3, 5));
        due.is("roller 7", PLACE, x.setDraw(7, 5));
        due.is("roller and draw", PLACE, x.setDraw(3, 20001));
        due.is("draw 20001", BAD, x.setDraw(2, 20001));
        due.is("draw -20001", BAD, x.setDraw(2, -20001));
        due.is("roller(2, 2)", 7, x.roller(2, 2));
        due.is("roller(0, 2)", 0, x.roller(0, 2));
        x.run(1);
        due.is("setDraw while it runs", 7, x.setDraw(2, 8));
    }

    private static void setSpeed() {
        due.topic("promise 9");
        WebTensionLine x = new WebTensionLine();
        due.is("both as before", 0, x.setSpeed(0, 100));
        due.is("target", 1, x.setSpeed(20000, 100));
        due.is("ramp", 1, x.setSpeed(20000, 5000));
        due.is("both", 1, x.setSpeed(0, 1));
        due.is("target -1", BAD, x.setSpeed(-1, 1));
        due.is("target 20001", BAD, x.setSpeed(20001, 1));
        due.is("ramp 0", BAD, x.setSpeed(0, 0));
        due.is("ramp 5001", BAD, x.setSpeed(0, 5001));
        due.is("refused ones changed nothing", 0, x.setSpeed(0, 1));
    }

    private static void setSplicing() {
        due.topic("promise 10");
        WebTensionLine x = new WebTensionLine();
        due.is("both as before", 0, x.setSplicing(1000, 0));
        due.is("speed", 1, x.setSplicing(20000, 0));
        due.is("trigger", 1, x.setSplicing(20000, 100000000));
        due.is("both", 1, x.setSplicing(0, 5));
        due.is("speed -1", BAD, x.setSplicing(-1, 5));
        due.is("speed 20001", BAD, x.setSplicing(20001, 5));
        due.is("trigger -1", BAD, x.setSplicing(0, -1));
        due.is("trigger 100000001", BAD, x.setSplicing(0, 100000001));
        due.is("refused ones changed nothing", 0, x.setSplicing(0, 5));
    }

    private static void loadRoll() {
        due.topic("promise 11");
        WebTensionLine x = new WebTensionLine();
        due.is("length 0", BAD, x.loadRoll(0));
        due.is("length -1", BAD, x.loadRoll(-1));
        due.is("length 1000000001", BAD, x.loadRoll(1000000001));
        due.is("the present roll", 0, x.loadRoll(1000000000));
        due.is("web(0)", 1000000000, x.web(0));
        due.is("web(1)", 0, x.web(1));
        due.is("first in the queue", 1, x.loadRoll(1));
        due.is("second", 2, x.loadRoll(1000000000));
        due.is("third", 3, x.loadRoll(1000000000));
        due.is("fourth", 4, x.loadRoll(1000000000));
        due.is("fifth", WebTensionLine.FULL, x.loadRoll(1));
        due.is("BAD_VALUE before FULL", BAD, x.loadRoll(0));
        due.is("web(0)", 1000000000, x.web(0));
        due.is("web(1)", 3000000001L, x.web(1));
        due.is("value(6)", 4, x.value(6));
    }

    private static void loadRollBehindAnEmptyOne() {
        WebTensionLine x = new WebTensionLine();
        x.loadRoll(1000);
        x.setSpeed(1000, 1000);
        x.run(1);
        due.is("web(0), used up", 0, x.web(0));
        due.is("loadRoll on an empty unwinder", 0, x.loadRoll(500));
        due.is("web(0)", 500, x.web(0));
        x.run(1);
        due.is("web(0), out of web", -500, x.web(0));
        due.is("loadRoll with web missing", 1, x.loadRoll(700));
        due.is("web(0)", -500, x.web(0));
        due.is("web(1)", 700, x.web(1));
        x.thread();
        due.is("web(0) after thread", 0, x.web(0));
        due.is("loadRoll with an empty roll and a queue", 2, x.loadRoll(800));
        due.is("web(1)", 1500, x.web(1));
    }

    private static void setRollLength() {
        due.topic("promise 12");
        WebTensionLine x = new WebTensionLine();
        due.is("setRollLength(100000)", 1000000000, x.setRollLength(100000));
        due.is("setRollLength(999999999)", 100000, x.setRollLength(999999999));
        due.is("length 99999", BAD, x.setRollLength(99999));
        due.is("length 1000000001", BAD, x.setRollLength(1000000001));
        due.is("length 0", BAD, x.setRollLength(0));
        due.is("setRollLength(1000000000)", 999999999, x.setRollLength(1000000000));
    }

    private static void threadRefuses() {
        due.topic("promise 14");
        WebTensionLine x = new WebTensionLine();
        due.is("thread at first", WebTensionLine.NOT_NOW, x.thread());
        x.setSpeed(1000, 1000);
        x.loadRoll(5000);
        x.run(3);
        due.is("thread while it runs", WebTensionLine.NOT_NOW, x.thread());
        due.is("value(2)", 1000, x.value(2));
    }

    /** Two spans with a dancer and a load cell, a mark in the line, and a break at the unwinder. */
    private static WebTensionLine broken() {
        WebTensionLine x = new WebTensionLine();
        x.addSpan(300000);
        x.setDancer(0, 10001, 2000, 10, 100, 10);
        x.setLoadCell(1, 1000, 5000);
        x.setSplicing(4000, 0);
        x.setSpeed(4000, 4000);
        x.setDraw(1, 300);
        x.setRollLength(100000);
        x.loadRoll(90000);
        x.loadRoll(20000);
        x.loadRoll(30000);
        x.run(25);
        x.setSplicing(100, 0);
        x.run(300);
        return x;
    }

    private static void threadAfterABreak() {
        WebTensionLine x = broken();
        due.is("value(1)", 1, x.value(1));
        due.is("value(4)", 1, x.value(4));
        due.holds("web(0) is negative", x.web(0) < 0);
        due.is("thread()", 1, x.thread());
        due.is("value(1)", 0, x.value(1));
        due.is("value(2)", 0, x.value(2));
        due.is("value(4)", 0, x.value(4));
        due.is("web(0)", 0, x.web(0));
        due.is("roller(1, 3)", 0, x.roller(1, 3));
        due.is("roller(2, 3)", 0, x.roller(2, 3));
        due.is("measure(0, 6)", 5000, x.measure(0, 6));
        due.is("measure(0, 7)", 0, x.measure(0, 7));
        due.is("measure(0, 1)", 1010000, x.measure(0, 1));
        due.is("measure(1, 1)", 300000, x.measure(1, 1));
        due.is("measure(0, 4)", 0, x.measure(0, 4));
        due.is("measure(1, 4)", 0, x.measure(1, 4));
        due.is("measure(0, 5)", 0, x.measure(0, 5));
        due.is("markDistance(0)", WebTensionLine.NO_VALUE, x.markDistance(0));
        due.is("thread again", WebTensionLine.NOT_NOW, x.thread());
    }

    private static void threadKeepsTheRest() {
        WebTensionLine x = broken();
        WebTensionLine y = broken();
        y.thread();
        for (int what : new int[] {0, 3, 5, 6, 7}) {
            due.is("value " + what, x.value(what), y.value(what));
        }
        for (int i = 0; i <= 2; i++) {
            due.holds("web has passed roller " + i, x.roller(i, 0) > 100000);
            due.is("passage of " + i, x.roller(i, 0), y.roller(i, 0));
            due.is("draw of " + i, x.roller(i, 2), y.roller(i, 2));
        }
        due.holds("there was a tension", x.measure(0, 3) > 0);
        due.is("measure(0, 3)", x.measure(0, 3), y.measure(0, 3));
        due.is("measure(1, 3)", x.measure(1, 3), y.measure(1, 3));
        due.is("web(1)", 30000, y.web(1));
        due.is("web(2)", x.web(2), y.web(2));
        due.is("breakAt()", -1, y.breakAt());
        due.is("event(0, 0)", x.event(0, 0), y.event(0, 0));
        due.is("setSpeed", 0, y.setSpeed(4000, 4000));
        due.is("setSplicing", 0, y.setSplicing(100, 0));
        due.is("setRollLength", 100000, y.setRollLength(100000));
        due.is("setStrength", 0, y.setStrength(1000000, 500));
    }

    private static void threadAfterTheWebEnds() {
        WebTensionLine x = new WebTensionLine();
        x.setSpeed(1000, 1000);
        x.loadRoll(30500);
        due.is("run(40)", 2, x.run(40));
        due.is("measure(0, 4)", 31, x.measure(0, 4));
        due.is("slackSpans()", 1, x.slackSpans());
        due.is("value(7)", 2, x.value(7));
        due.is("thread()", 1, x.thread());
        due.is("measure(0, 4)", 0, x.measure(0, 4));
        due.is("slackSpans()", 0, x.slackSpans());
        due.is("value(7): no event by thread", 2, x.value(7));
        due.is("breakAt()", WebTensionLine.NONE, x.breakAt());
        due.is("value(0)", 31, x.value(0));
        x.loadRoll(1000000);
        due.is("web(0)", 1000000, x.web(0));
        due.is("run(10)", 0, x.run(10));
        due.is("value(0)", 41, x.value(0));
        due.is("roller(0, 0) goes on", 41000, x.roller(0, 0));
    }
}

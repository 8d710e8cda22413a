/** Promises 15 to 22: what is measured. */
public final class MeasuredTest {
    private static final int BAD = WebTensionLine.BAD_VALUE;
    private static final int NONE = WebTensionLine.NONE;
    private static final long NO_VALUE = WebTensionLine.NO_VALUE;
    private static final int[] FAR = {Integer.MIN_VALUE, -1, Integer.MAX_VALUE};
    private static final Due due = new Due();

    public static void main(String[] args) {
        value();
        breakAt();
        measure();
        roller();
        web();
        markDistance();
        marksAfterThread();
        slackSpans();
        event();
        theLatestEvents();
        due.end();
    }

    private static void value() {
        due.topic("promise 15");
        WebTensionLine x = new WebTensionLine();
        x.addSpan(100000);
        x.setSplicing(20000, 0);
        x.setSpeed(20000, 5000);
        x.setRollLength(100000);
        x.loadRoll(40000);
        x.loadRoll(10000);
        x.loadRoll(300000);
        x.loadRoll(300000);
        x.run(8);
        int[] values = {8, 0, 20000, 2, 2, 1, 1, 3};
        for (int what = 0; what < values.length; what++) {
            due.is("value " + what, values[what], x.value(what));
        }
        due.is("value 8", BAD, x.value(8));
        for (int what : FAR) {
            due.is("value " + what, BAD, x.value(what));
        }
    }

    private static void breakAt() {
        due.topic("promise 16");
        WebTensionLine x = new WebTensionLine();
        x.addSpan(1000000);
        due.is("breakAt() at first", NONE, x.breakAt());
        x.setStrength(1000, 500);
        x.setDraw(2, 20000);
        x.setSpeed(20000, 5000);
        x.loadRoll(1000000);
        due.is("run(20)", 1, x.run(20));
        due.is("breakAt()", 1, x.breakAt());
        x.thread();
        due.is("breakAt() after thread", 1, x.breakAt());
        x.setDraw(2, 0);
        x.setDraw(1, 20000);
        due.is("run(20)", 1, x.run(20));
        due.is("breakAt(), the latest", 0, x.breakAt());
        x.thread();
        x.setDraw(1, 0);
        x.loadRoll(1);
        due.is("run(300)", 1, x.run(300));
        due.is("breakAt() at the unwinder", -1, x.breakAt());
        x.reset(1000000);
        due.is("breakAt() after reset", NONE, x.breakAt());
    }

    private static void measure() {
        due.topic("promise 17");
        WebTensionLine x = new WebTensionLine();
        x.addSpan(100000);
        x.setDancer(1, 10, 0, 1, 0, 0);
        long[] first = {0, 1000000, 1000000, 0, 0, 0, NO_VALUE, NO_VALUE};
        long[] second = {0, 100010, 100010, 0, 0, 0, 5, 0};
        for (int what = 0; what < first.length; what++) {
            due.is("measure 0 " + what, first[what], x.measure(0, what));
            due.is("measure 1 " + what, second[what], x.measure(1, what));
            due.is("measure 2 " + what, NO_VALUE, x.measure(2, what));
            due.is("measure 6 " + what, NO_VALUE, x.measure(6, what));
            for (int span : FAR) {
                due.is("measure " + span + " " + what, NO_VALUE, x.measure(span, what));
            }
        }
        due.is("measure 1 8", NO_VALUE, x.measure(1, 8));
        for (int what : FAR) {
            due.is("measure 1 " + what, NO_VALUE, x.measure(1, what));
        }
        x.setLoadCell(0, 1, 1);
        due.is("measure 0 6, load cell", NO_VALUE, x.measure(0, 6));
        due.is("measure 0 7, load cell", NO_VALUE, x.measure(0, 7));
    }

    private static void roller() {
        due.topic("promise 18");
        WebTensionLine x = new WebTensionLine();
        x.addSpan(200000);
        x.setLoadCell(0, 1000, 10000);
        x.setDraw(1, 2000);
        x.setDraw(2, -3000);
        x.setSpeed(1000, 1000);
        x.loadRoll(1000000);
        due.is("roller(1, 1), standing", 0, x.roller(1, 1));
        x.run(1);
        long[][] due1 = {{1000, 1000, 0, 0}, {1002, 1011, 2000, 9}, {998, 998, -3000, 0}};
        for (int i = 0; i < due1.length; i++) {
            for (int what = 0; what < 4; what++) {
                due.is("roller " + i + " " + what, due1[i][what], x.roller(i, what));
            }
        }
        x.setDraw(1, -20000);
        due.is("roller(1, 1), with the present draw", 989, x.roller(1, 1));
        for (int what = 0; what < 4; what++) {
            due.is("roller 3 " + what, NO_VALUE, x.roller(3, what));
            due.is("roller 7 " + what, NO_VALUE, x.roller(7, what));
            for (int roller : FAR) {
                due.is("roller " + roller + " " + what, NO_VALUE, x.roller(roller, what));
            }
        }
        due.is("roller 0 4", NO_VALUE, x.roller(0, 4));
        for (int what : FAR) {
            due.is("roller 0 " + what, NO_VALUE, x.roller(0, what));
        }
    }

    private static void web() {
        due.topic("promise 19");
        WebTensionLine x = new WebTensionLine();
        x.setDraw(1, 1000);
        x.setSpeed(1000, 1000);
        x.loadRoll(5000);
        x.loadRoll(70);
        x.loadRoll(800);
        x.run(2);
        due.is("web(0)", 3000, x.web(0));
        due.is("web(1)", 870, x.web(1));
        due.is("web(2)", 2001, x.web(2));
        due.is("web(3)", NO_VALUE, x.web(3));
        for (int what : FAR) {
            due.is("web " + what, NO_VALUE, x.web(what));
        }
    }

    /** Two spans of 100000; a splice at roller 0 just at the end of the first tick, seen in the second. */
    private static WebTensionLine withAMark() {
        WebTensionLine x = new WebTensionLine();
        x.reset(100000);
        x.addSpan(100000);
        x.setSpeed(1000, 1000);
        x.loadRoll(1000);
        x.loadRoll(10000000);
        x.run(2);
        return x;
    }

    private static void markDistance() {
        due.topic("promise 20");
        WebTensionLine x = withAMark();
        due.is("markDistance(0)", 199000, x.markDistance(0));
        due.is("markDistance(1)", NO_VALUE, x.markDistance(1));
        for (int k : FAR) {
            due.is("markDistance " + k, NO_VALUE, x.markDistance(k));
        }
        x.run(98);
        due.is("measure(0, 5), 1000 before the roller", 1, x.measure(0, 5));
        due.is("measure(1, 5)", 0, x.measure(1, 5));
        x.run(1);
        due.is("measure(0, 5), just at the roller", 0, x.measure(0, 5));
        due.is("measure(1, 5)", 1, x.measure(1, 5));
        due.is("markDistance(0)", 100000, x.markDistance(0));
        x.run(99);
        due.is("value(4), 1000 before the last roller", 1, x.value(4));
        due.is("markDistance(0)", 1000, x.markDistance(0));
        x.run(1);
        due.is("value(4), just at the last roller", 0, x.value(4));
        due.is("measure(1, 5)", 0, x.measure(1, 5));
        due.is("markDistance(0)", NO_VALUE, x.markDistance(0));
        x = withAMark();
        x.loadRoll(10000000);
        x.setDraw(2, -20000);
        x.run(3);
        due.is("measure(1, 1)", 100060, x.measure(1, 1));
        due.is("markDistance(0), with the web that heaps up", 196060, x.markDistance(0));
    }

    /** After thread the passages of the rollers no longer tell how much web lies between them. */
    private static void marksAfterThread() {
        WebTensionLine x = new WebTensionLine();
        x.reset(100000);
        x.addSpan(100000);
        x.setDraw(1, -20000);
        x.setSpeed(1000, 1000);
        x.loadRoll(50000);
        due.is("run(60)", 2, x.run(60));
        due.holds("web has heaped up", x.measure(0, 1) > 100500);
        x.thread();
        x.setDraw(1, 0);
        x.loadRoll(1000);
        x.loadRoll(10000000);
        x.run(2);
        due.is("markDistance(0)", 199000, x.markDistance(0));
        x.run(98);
        due.is("measure(0, 5)", 1, x.measure(0, 5));
        x.run(1);
        due.is("measure(0, 5), just at the roller", 0, x.measure(0, 5));
        due.is("measure(1, 5)", 1, x.measure(1, 5));
        x.run(99);
        due.is("value(4)", 1, x.value(4));
        x.run(1);
        due.is("value(4), just at the last roller", 0, x.value(4));
    }

    private static void slackSpans() {
        due.topic("promise 21");
        WebTensionLine x = new WebTensionLine();
        for (int i = 1; i < 6; i++) {
            x.addSpan(1000000);
        }
        x.setDraw(2, 20000);
        x.setDraw(3, -20000);
        x.setDraw(5, 20000);
        x.setDraw(6, -20000);
        x.setSpeed(1000, 1000);
        x.loadRoll(1000000);
        x.run(19);
        due.is("slackSpans() after 19", 0, x.slackSpans());
        x.run(1);
        due.is("slackSpans(): all but 1 and 4", 0b101101, x.slackSpans());
    }

    private static void event() {
        due.topic("promise 22");
        WebTensionLine x = new WebTensionLine();
        x.run(20);
        due.is("event(0, 0)", 20, x.event(0, 0));
        due.is("event(0, 1)", 2, x.event(0, 1));
        due.is("event(0, 2)", 0, x.event(0, 2));
        due.is("event(0, 3)", BAD, x.event(0, 3));
        due.is("event(1, 0)", NONE, x.event(1, 0));
        due.is("event(30, 0)", NONE, x.event(30, 0));
        due.is("event(1, 3): BAD_VALUE before NONE", BAD, x.event(1, 3));
        due.is("event of the greatest k", NONE, x.event(Integer.MAX_VALUE, 0));
        for (int far : FAR) {
            due.is("event(0, " + far + ")", BAD, x.event(0, far));
        }
        due.is("event(-1, 0)", BAD, x.event(-1, 0));
        due.is("event of the least k", BAD, x.event(Integer.MIN_VALUE, 0));
    }

    /** The k-th roll is finished in the tick 5 * k + 2, and slack begins in tick 20. */
    private static void theLatestEvents() {
        WebTensionLine x = new WebTensionLine();
        x.setRollLength(100000);
        x.setSpeed(20000, 5000);
        x.loadRoll(1000000000);
        x.run(147);
        due.is("value(7)", 30, x.value(7));
        due.is("event(0, 0)", 7, x.event(0, 0));
        due.is("event(0, 2)", 1, x.event(0, 2));
        x.run(5);
        due.is("value(7)", 30, x.value(7));
        int[][] dueEvents = {{0, 12, 5, 2}, {1, 17, 5, 3}, {2, 20, 2, 0}, {3, 22, 5, 4},
            {28, 147, 5, 29}, {29, 152, 5, 30}};
        for (int[] one : dueEvents) {
            for (int what = 0; what < 3; what++) {
                due.is("event " + one[0] + " " + what, one[what + 1], x.event(one[0], what));
            }
        }
        due.is("event(30, 0)", NONE, x.event(30, 0));
        x.run(300);
        due.is("event(0, 2), after 60 more", 61, x.event(0, 2));
        due.is("event(29, 0)", 452, x.event(29, 0));
    }
}

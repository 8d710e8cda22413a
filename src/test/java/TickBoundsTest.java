/** The boundary cases that part 6 of a tick, the state and the section Events name, a test each. */
public final class TickBoundsTest {
    private static final int OUT = 2;
    private static final int BROKEN = 1;
    private static final int NONE = WebTensionLine.NONE;
    private static final Due due = new Due();

    public static void main(String[] args) {
        noTickWhenBroken();
        noTickWhenOutOfWeb();
        theTickThatEndsTheWebIsCarriedOut();
        theTickThatBreaksIsCarriedOut();
        theTickThatTearsASpanIsCarriedOut();
        theGreatestTension();
        theSlackCountAtTensionZero();
        slackBeginsAtTwenty();
        slackBeginsOnce();
        slackEndsIfItWasAtLeastTwenty();
        slackBeginsAgain();
        slackOfEachSpan();
        brokenIfTheTensionIsGreater();
        brokenIfTheTensionIsGreaterThanASplice();
        weakIfAMarkIsInTheSpan();
        weakInTheSecondSpan();
        noSecondBreakAfterTheUnwinder();
        noSecondBreakInAnotherSpan();
        aBreakAfterTheWebEnded();
        theOrderOfEventsInATick();
        theOrderOfEventsInASpan();
        noEventAtFirst();
        thirtyEventsAreKept();
        theNumberOfFinishedRollsOfAnOldEvent();
        due.end();
    }

    /** A span of 100000 and a base speed of 5000 from the first tick on. */
    private static WebTensionLine line(int... rolls) {
        WebTensionLine x = new WebTensionLine();
        x.reset(100000);
        x.setSpeed(5000, 5000);
        x.setSplicing(20000, 0);
        for (int roll : rolls) {
            x.loadRoll(roll);
        }
        return x;
    }

    /** The same with a tension of 1000 after the first tick: the material is 99900 then. */
    private static WebTensionLine tightLine(int... rolls) {
        WebTensionLine x = line(rolls);
        x.setWeb(999000, 0);
        x.setDraw(1, 20000);
        return x;
    }

    private static void staysAsItIs(WebTensionLine x, int state) {
        String before = Readings.of(x);
        due.is("run(1)", state, x.run(1));
        due.is("run(300)", state, x.run(300));
        due.holds("nothing changes", before.equals(Readings.of(x)));
    }

    private static void noTickWhenBroken() {
        due.topic("unless it is 0, a tick does nothing (not even time passes): broken");
        WebTensionLine x = tightLine(100000000);
        x.setStrength(1000, 500);
        due.is("run(300)", BROKEN, x.run(300));
        due.is("time", 2, x.value(0));
        staysAsItIs(x, BROKEN);
        x.setStrength(10000000, 1000);
        staysAsItIs(x, BROKEN);
    }

    private static void noTickWhenOutOfWeb() {
        due.topic("unless it is 0, a tick does nothing (not even time passes): out of web");
        WebTensionLine x = line(9999);
        due.is("run(300)", OUT, x.run(300));
        due.is("time", 2, x.value(0));
        staysAsItIs(x, OUT);
        x.loadRoll(1000000);
        staysAsItIs(x, OUT);
    }

    private static void theTickThatEndsTheWebIsCarriedOut() {
        due.topic("the tick is carried out to its end nevertheless: out of web");
        WebTensionLine x = line(4999);
        x.setRollLength(100000);
        due.is("run(1)", OUT, x.run(1));
        due.is("time", 1, x.value(0));
        due.is("base speed", 5000, x.value(2));
        due.is("passage of roller 0", 5000, x.roller(0, 0));
        due.is("passage of roller 1", 5000, x.roller(1, 0));
        due.is("length on the rewinder", 5000, x.web(2));
        due.is("slack count", 1, x.measure(0, 4));
        x = tightLine(4999);
        due.is("run(1)", OUT, x.run(1));
        due.is("greatest tension", 1000, x.measure(0, 3));
    }

    private static void theTickThatBreaksIsCarriedOut() {
        due.topic("the tick is carried out to its end nevertheless: broken at the unwinder");
        WebTensionLine x = line(99999, 1000);
        x.setSplicing(4999, 0);
        x.setRollLength(100000);
        due.is("run(20)", BROKEN, x.run(20));
        due.is("time", 20, x.value(0));
        due.is("breakAt()", -1, x.breakAt());
        due.is("event(0, 1)", 1, x.event(0, 1));
        due.is("finished in the same tick", 5, x.event(1, 1));
        due.is("slack in the same tick", 2, x.event(2, 1));
        due.is("events", 3, x.value(7));
        due.is("slack count", 20, x.measure(0, 4));
        due.is("length on the rewinder", 0, x.web(2));
    }

    private static void theTickThatTearsASpanIsCarriedOut() {
        due.topic("the tick is carried out to its end nevertheless: the spans behind the break");
        WebTensionLine x = tightLine(100000000);
        x.addSpan(100000);
        x.setDraw(2, 10000);
        x.setWeb(10000000, 0);
        x.setStrength(1000, 500);
        due.is("run(1)", BROKEN, x.run(1));
        due.is("breakAt()", 0, x.breakAt());
        due.is("greatest tension of span 1", 5102, x.measure(1, 3));
        x = tightLine(100000000);
        x.addSpan(100000);
        x.setWeb(10000000, 0);
        x.setStrength(1000, 500);
        due.is("run(1)", BROKEN, x.run(1));
        due.is("slack count of span 1", 1, x.measure(1, 4));
    }

    private static void theGreatestTension() {
        due.topic("the greatest tension of the span is kept");
        WebTensionLine x = tightLine(100000000);
        due.is("at first", 0, x.measure(0, 3));
        x.run(1);
        due.is("after a tick", 1000, x.measure(0, 3));
        x.setDraw(1, -20000);
        x.run(1);
        due.holds("the tension falls", x.measure(0, 0) < 1000);
        due.is("when it falls", 1000, x.measure(0, 3));
        x.setDraw(1, 20000);
        x.run(300);
        due.is("when it rises", x.measure(0, 0), x.measure(0, 3));
        due.holds("it rises", x.measure(0, 3) > 1000);
    }

    private static long slackCountAfterATick(int stiffness, int draw) {
        WebTensionLine x = line(100000000);
        x.setWeb(stiffness, 0);
        x.run(2);
        x.setDraw(1, draw);
        x.run(1);
        return x.measure(0, 4);
    }

    private static void theSlackCountAtTensionZero() {
        due.topic("if the tension is 0, the slack count increases by 1, otherwise it becomes 0");
        due.is("tension 1", 0, slackCountAfterATick(99999, 200));
        due.is("tension of 0.99999", 3, slackCountAfterATick(99998, 200));
        due.is("length just the material", 3, slackCountAfterATick(10000000, 0));
        due.is("more material", 3, slackCountAfterATick(10000000, -200));
    }

    private static void slackBeginsAtTwenty() {
        due.topic("if it becomes 20, there is an event 2");
        WebTensionLine x = line(100000000);
        x.run(19);
        due.is("19: count", 19, x.measure(0, 4));
        due.is("19: events", 0, x.value(7));
        due.is("19: slackSpans()", 0, x.slackSpans());
        x.run(1);
        due.is("20: count", 20, x.measure(0, 4));
        due.is("20: events", 1, x.value(7));
        due.is("20: time", 20, x.event(0, 0));
        due.is("20: kind", 2, x.event(0, 1));
        due.is("20: place", 0, x.event(0, 2));
        due.is("20: slackSpans()", 1, x.slackSpans());
    }

    private static void slackBeginsOnce() {
        due.topic("if it becomes 20, there is an event 2: not at 21, 40 or later");
        WebTensionLine x = line(100000000);
        x.run(21);
        due.is("21: events", 1, x.value(7));
        due.is("21: slackSpans()", 1, x.slackSpans());
        x.run(20);
        due.is("41: events", 1, x.value(7));
        x.run(300);
        due.is("341: events", 1, x.value(7));
        due.is("341: count", 341, x.measure(0, 4));
    }

    private static WebTensionLine tightAfter(int slackTicks) {
        WebTensionLine x = line(100000000);
        x.run(slackTicks);
        x.setDraw(1, 20000);
        x.run(1);
        due.is("count", 0, x.measure(0, 4));
        due.is("slackSpans()", 0, x.slackSpans());
        return x;
    }

    private static void slackEndsIfItWasAtLeastTwenty() {
        due.topic("if it becomes 0 and was at least 20, there is an event 3");
        due.is("it was 19: events", 0, tightAfter(19).value(7));
        WebTensionLine x = tightAfter(20);
        due.is("it was 20: events", 2, x.value(7));
        due.is("it was 20: time", 21, x.event(1, 0));
        due.is("it was 20: kind", 3, x.event(1, 1));
        due.is("it was 20: place", 0, x.event(1, 2));
        x = tightAfter(21);
        due.is("it was 21: events", 2, x.value(7));
        due.is("it was 21: kind", 3, x.event(1, 1));
        x.run(1);
        due.is("it was 0: events", 2, x.value(7));
    }

    private static void slackBeginsAgain() {
        due.topic("if it becomes 20, there is an event 2: each time");
        WebTensionLine x = tightAfter(20);
        x.setDraw(1, -20000);
        x.run(1);
        due.is("count", 1, x.measure(0, 4));
        x.run(18);
        due.is("19: events", 2, x.value(7));
        x.run(1);
        due.is("20: events", 3, x.value(7));
        due.is("20: kind", 2, x.event(2, 1));
        due.is("20: time", 41, x.event(2, 0));
    }

    private static void slackOfEachSpan() {
        due.topic("2 slack begins and 3 slack ends (place: the span)");
        WebTensionLine x = line(100000000);
        x.addSpan(100000);
        x.addSpan(100000);
        x.setDraw(2, 200);
        x.setDraw(3, -200);
        x.run(20);
        due.is("slackSpans()", 0b101, x.slackSpans());
        due.is("events", 2, x.value(7));
        due.is("event(0, 2)", 0, x.event(0, 2));
        due.is("event(1, 2)", 2, x.event(1, 2));
        x.setDraw(3, 20000);
        x.run(1);
        due.is("events", 3, x.value(7));
        due.is("event(2, 1)", 3, x.event(2, 1));
        due.is("event(2, 2)", 2, x.event(2, 2));
        due.is("slackSpans()", 0b001, x.slackSpans());
    }

    private static void brokenIfTheTensionIsGreater() {
        due.topic("if the tension is greater than the strength");
        WebTensionLine x = tightLine(100000000);
        x.setStrength(1001, 1);
        due.is("1 less than the strength", 0, x.run(1));
        due.is("breakAt()", NONE, x.breakAt());
        x = tightLine(100000000);
        x.setStrength(1000, 1);
        due.is("just the strength", 0, x.run(1));
        due.is("tension", 1000, x.measure(0, 0));
        due.is("breakAt()", NONE, x.breakAt());
        due.is("events", 0, x.value(7));
        x = tightLine(100000000);
        x.setWeb(999999, 0);
        x.setStrength(1000, 1);
        due.is("1 more than the strength", BROKEN, x.run(1));
        due.is("tension", 1001, x.measure(0, 0));
        due.is("breakAt()", 0, x.breakAt());
        due.is("event(0, 0)", 1, x.event(0, 0));
        due.is("event(0, 1)", 1, x.event(0, 1));
        due.is("event(0, 2)", 0, x.event(0, 2));
    }

    private static WebTensionLine splicedLine(int strength, int splice) {
        WebTensionLine x = tightLine(1, 100000000);
        x.setStrength(strength, splice);
        x.run(1);
        due.is("measure(0, 5)", 1, x.measure(0, 5));
        due.is("tension", 1000, x.measure(0, 0));
        return x;
    }

    private static void brokenIfTheTensionIsGreaterThanASplice() {
        due.topic("strength * splice strength / 1000 if a mark is in the span");
        due.is("1001", 0, splicedLine(2002, 500).value(1));
        due.is("1000.5", 0, splicedLine(2001, 500).value(1));
        due.is("1000", 0, splicedLine(2000, 500).value(1));
        WebTensionLine x = splicedLine(1999, 500);
        due.is("999.5", BROKEN, x.value(1));
        due.is("breakAt()", 0, x.breakAt());
        due.is("events", 2, x.value(7));
        due.is("splice first", 0, x.event(0, 1));
        due.is("break then", 1, x.event(1, 1));
        due.is("the mark stays", 1, x.value(4));
    }

    /** In tick 21 roller 1 passes 5100, and the tension becomes 100 in span 0 alone. */
    private static int stateAtRollerOne(int roll) {
        WebTensionLine x = line(roll, 100000000);
        x.addSpan(100000);
        x.setWeb(99900, 0);
        x.setStrength(1000, 1);
        due.is("run(20), without tension", 0, x.run(20));
        x.setDraw(1, 20000);
        int state = x.run(1);
        due.is("tension of span 0", 100, x.measure(0, 0));
        due.is("tension of span 1", 0, x.measure(1, 0));
        return state;
    }

    private static void weakIfAMarkIsInTheSpan() {
        due.topic("if a mark is in the span: it has passed roller i and not roller i + 1");
        due.is("1 before roller 1", BROKEN, stateAtRollerOne(5101));
        due.is("just at roller 1", 0, stateAtRollerOne(5100));
        due.is("1 behind roller 1", 0, stateAtRollerOne(5099));
    }

    /** In tick 21 roller 1 passes 5000, and the tension becomes 100 in span 1 alone. */
    private static int stateBehindRollerOne(int roll) {
        WebTensionLine x = line(roll, 100000000);
        x.addSpan(100000);
        x.setWeb(99900, 0);
        x.setStrength(1000, 1);
        due.is("run(20), without tension", 0, x.run(20));
        x.setDraw(2, 20000);
        int state = x.run(1);
        due.is("tension of span 0", 0, x.measure(0, 0));
        due.is("tension of span 1", 100, x.measure(1, 0));
        due.is("breakAt()", state == BROKEN ? 1 : NONE, x.breakAt());
        return state;
    }

    private static void weakInTheSecondSpan() {
        due.topic("if a mark is in the span: the second one");
        due.is("1 before roller 1", 0, stateBehindRollerOne(5001));
        due.is("just at roller 1", BROKEN, stateBehindRollerOne(5000));
        due.is("1 behind roller 1", BROKEN, stateBehindRollerOne(4999));
    }

    private static void noSecondBreakAfterTheUnwinder() {
        due.topic("and the state is not 1 yet: broken at the unwinder");
        WebTensionLine x = tightLine(1, 1);
        x.setWeb(10000000, 0);
        x.setStrength(1000, 500);
        x.setSplicing(0, 0);
        due.is("run(1)", BROKEN, x.run(1));
        due.is("tension", 10010, x.measure(0, 0));
        due.is("breakAt()", -1, x.breakAt());
        due.is("events", 1, x.value(7));
    }

    private static void noSecondBreakInAnotherSpan() {
        due.topic("and the state is not 1 yet: broken in a span before");
        WebTensionLine x = tightLine(100000000);
        x.addSpan(100000);
        x.setDraw(2, 20000);
        x.setWeb(10000000, 0);
        x.setStrength(1000, 500);
        due.is("run(1)", BROKEN, x.run(1));
        due.holds("tension of span 1", x.measure(1, 0) > 1000);
        due.is("breakAt()", 0, x.breakAt());
        due.is("events", 1, x.value(7));
    }

    private static void aBreakAfterTheWebEnded() {
        due.topic("and the state is not 1 yet: out of web is not 1");
        WebTensionLine x = tightLine(1);
        x.setWeb(10000000, 0);
        x.setStrength(1000, 500);
        due.is("run(1)", BROKEN, x.run(1));
        due.is("breakAt()", 0, x.breakAt());
        due.is("events", 2, x.value(7));
        due.is("event(0, 1)", 4, x.event(0, 1));
        due.is("event(1, 1)", 1, x.event(1, 1));
        due.is("event(1, 2)", 0, x.event(1, 2));
    }

    private static void theOrderOfEventsInATick() {
        due.topic("the parts of a tick in their order");
        WebTensionLine x = line(99999, 1000000);
        x.addSpan(100000);
        x.setRollLength(100000);
        x.setStrength(1000, 500);
        x.run(19);
        due.is("events before", 0, x.value(7));
        x.setDraw(2, 20000);
        due.is("run(1)", BROKEN, x.run(1));
        int[][] events = {{0, 0}, {5, 1}, {2, 0}, {1, 1}};
        for (int k = 0; k < events.length; k++) {
            due.is("time of " + k, 20, x.event(k, 0));
            due.is("kind of " + k, events[k][0], x.event(k, 1));
            due.is("place of " + k, events[k][1], x.event(k, 2));
        }
        due.is("events", 4, x.value(7));
    }

    private static void theOrderOfEventsInASpan() {
        due.topic("slack ends before the span breaks");
        WebTensionLine x = line(100000000);
        x.setStrength(1000, 500);
        x.run(20);
        x.setDraw(1, 20000);
        due.is("run(1)", BROKEN, x.run(1));
        due.is("events", 3, x.value(7));
        due.is("slack begins", 2, x.event(0, 1));
        due.is("slack ends", 3, x.event(1, 1));
        due.is("break", 1, x.event(2, 1));
    }

    private static void noEventAtFirst() {
        due.topic("events, numbered from 0: none");
        WebTensionLine x = line(100000000);
        due.is("value(7)", 0, x.value(7));
        due.is("event(0, 0)", NONE, x.event(0, 0));
    }

    /** Roll k is finished in tick 20 * k, and slack begins in tick 20. */
    private static WebTensionLine withEvents(int count) {
        WebTensionLine x = line(1000000000);
        x.setRollLength(100000);
        for (int finished = 1; finished < count; finished++) {
            x.run(20);
        }
        return x;
    }

    private static void keeps(WebTensionLine x, int count, int firstKind, int firstPlace) {
        due.is("value(7)", count, x.value(7));
        due.is("kind of event 0", firstKind, x.event(0, 1));
        due.is("place of event 0", firstPlace, x.event(0, 2));
        due.is("kind of the last event", 5, x.event(count - 1, 1));
        due.is("time of the last event", x.value(0), x.event(count - 1, 0));
        due.is("place of the last event", x.value(5), x.event(count - 1, 2));
        due.is("time of the one behind it", NONE, x.event(count, 0));
    }

    private static void thirtyEventsAreKept() {
        due.topic("the 30 latest events are kept, numbered from 0, the oldest one first: 29");
        keeps(withEvents(29), 29, 5, 1);
        due.topic("the 30 latest events are kept, numbered from 0, the oldest one first: 30");
        keeps(withEvents(30), 30, 5, 1);
        due.topic("the 30 latest events are kept, numbered from 0, the oldest one first: 31");
        keeps(withEvents(31), 30, 2, 0);
        due.topic("the 30 latest events are kept, numbered from 0, the oldest one first: 32");
        keeps(withEvents(32), 30, 5, 2);
        due.topic("the 30 latest events are kept, numbered from 0, the oldest one first: 61");
        keeps(withEvents(61), 30, 5, 31);
        due.topic("the 30 latest events are kept, numbered from 0, the oldest one first: 62");
        keeps(withEvents(62), 30, 5, 32);
    }

    private static void theNumberOfFinishedRollsOfAnOldEvent() {
        due.topic("5 finished roll (place: how many are finished then)");
        WebTensionLine x = withEvents(200);
        for (int k = 0; k < 30; k++) {
            due.is("time of " + k, 20 * (170 + k), x.event(k, 0));
            due.is("kind of " + k, 5, x.event(k, 1));
            due.is("place of " + k, 170 + k, x.event(k, 2));
        }
    }
}

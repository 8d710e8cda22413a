/** The boundary cases that the sections Rolls and Marks and the parts 1, 3 and 4 of a tick name. */
public final class RollBoundsTest {
    private static final int OUT = 2;
    private static final int BROKEN = 1;
    private static final long NO_VALUE = WebTensionLine.NO_VALUE;
    private static final Due due = new Due();

    public static void main(String[] args) {
        nothingOnTheUnwinderAtFirst();
        aQueueOfUpToFour();
        pendingIfAtMostTheTrigger();
        pendingIfTheQueueIsNotEmpty();
        pendingWithTheTriggerZero();
        theSpliceSpeedIfItIsLess();
        theTargetIfNoneIsPending();
        atMostTheRampUp();
        atMostTheRampDown();
        remainingZeroIsNotNegative();
        outOfWebIfTheQueueIsEmpty();
        brokenIfTheBaseSpeedIsGreater();
        splicedIfTheBaseSpeedIsNotGreater();
        splicedAtSpeedZero();
        outOfWebAtAnySpeed();
        theFirstRollOfTheQueue();
        aRollShorterThanWhatIsMissing();
        aRollJustAsLongAsWhatIsMissing();
        theMarkLiesWhereTheOldRollEnded();
        aMarkJustAtARoller();
        aMarkJustAtTheLastRoller();
        aMarkJustAtTheLastRollerWeakensNoSpan();
        aMarkMadeBehindTheLastRoller();
        manyMarks();
        finishedIfAtLeastTheRollLength();
        finishedOnceInATick();
        finishedWhileTheLineStands();
        due.end();
    }

    /** A span of 100000 and a base speed of 1000 from the first tick on. */
    private static WebTensionLine line(int... rolls) {
        WebTensionLine x = new WebTensionLine();
        x.reset(100000);
        x.setSpeed(1000, 1000);
        for (int roll : rolls) {
            x.loadRoll(roll);
        }
        return x;
    }

    private static void nothingOnTheUnwinderAtFirst() {
        due.topic("a remaining length (0 at first), a queue, a length on the rewinder");
        WebTensionLine x = new WebTensionLine();
        for (int what = 0; what < 3; what++) {
            due.is("web " + what, 0, x.web(what));
        }
        due.is("rolls in the queue", 0, x.value(6));
        due.is("finished rolls", 0, x.value(5));
        x.setSpeed(1, 1);
        due.is("run(1) without a roll", OUT, x.run(1));
    }

    private static void aQueueOfUpToFour() {
        due.topic("a queue of up to 4 further rolls");
        WebTensionLine x = line(5000, 1, 2, 3);
        due.is("the fourth", 4, x.loadRoll(4));
        due.is("a fifth", WebTensionLine.FULL, x.loadRoll(5));
        due.is("rolls in the queue", 4, x.value(6));
        due.is("their length", 10, x.web(1));
        x.setSplicing(1000, 0);
        x.run(6);
        due.is("the first one is spliced", 3, x.value(6));
        due.is("another fourth", 4, x.loadRoll(5));
        due.is("another fifth", WebTensionLine.FULL, x.loadRoll(6));
        due.is("their length", 14, x.web(1));
    }

    /** The base speed in the second tick, with 4000 remaining before it. */
    private static int speedWithTrigger(int trigger) {
        WebTensionLine x = line(5000, 5000);
        x.setSplicing(300, trigger);
        x.run(1);
        due.is("base speed in the first tick", 1000, x.value(2));
        due.is("remaining", 4000, x.web(0));
        x.run(1);
        return x.value(2);
    }

    private static void pendingIfAtMostTheTrigger() {
        due.topic("a splice is pending if the remaining length is at most the trigger");
        due.is("1 below the trigger", 300, speedWithTrigger(4001));
        due.is("at the trigger", 300, speedWithTrigger(4000));
        due.is("1 above the trigger", 1000, speedWithTrigger(3999));
        WebTensionLine x = line(5000, 5000);
        x.setSplicing(300, 4000);
        x.run(2);
        x.setSplicing(300, 3699);
        x.run(1);
        due.is("no longer pending", 1000, x.value(2));
    }

    private static void pendingIfTheQueueIsNotEmpty() {
        due.topic("a splice is pending if .. and the queue is not empty");
        WebTensionLine x = line(5000);
        x.setSplicing(300, 100000000);
        x.run(1);
        due.is("empty queue", 1000, x.value(2));
        x.loadRoll(1);
        x.run(1);
        due.is("one roll in the queue", 300, x.value(2));
    }

    private static int stateAfterTwo(int roll) {
        WebTensionLine x = line(roll, 5000);
        x.setSplicing(999, 0);
        return x.run(2);
    }

    private static void pendingWithTheTriggerZero() {
        due.topic("at most the trigger, which is 0");
        due.is("0 remaining: it slows down and splices", 0, stateAfterTwo(1000));
        due.is("1 remaining: it goes on and breaks", BROKEN, stateAfterTwo(1001));
    }

    private static int firstSpeed(int target, int ramp, int spliceSpeed) {
        WebTensionLine x = line(5000, 5000);
        x.setSplicing(spliceSpeed, 100000000);
        x.setSpeed(target, ramp);
        x.run(1);
        return x.value(2);
    }

    private static void theSpliceSpeedIfItIsLess() {
        due.topic("or the splice speed if that is less and a splice is pending");
        due.is("1 less than the target", 999, firstSpeed(1000, 5000, 999));
        due.is("just the target", 1000, firstSpeed(1000, 5000, 1000));
        due.is("1 more than the target", 1000, firstSpeed(1000, 5000, 1001));
        due.is("0", 0, firstSpeed(1000, 5000, 0));
        due.is("target 0", 0, firstSpeed(0, 5000, 1000));
    }

    private static void theTargetIfNoneIsPending() {
        due.topic("the wanted speed is the target if no splice is pending");
        WebTensionLine x = line(5000, 5000);
        x.setSplicing(0, 0);
        x.run(1);
        due.is("base speed", 1000, x.value(2));
    }

    private static void atMostTheRampUp() {
        due.topic("the base speed approaches the wanted speed by at most the ramp: up");
        due.is("ramp 999", 999, firstSpeed(1000, 999, 20000));
        due.is("ramp 1000", 1000, firstSpeed(1000, 1000, 20000));
        due.is("ramp 1001", 1000, firstSpeed(1000, 1001, 20000));
        due.is("ramp 1", 1, firstSpeed(1000, 1, 20000));
        due.is("the splice speed, ramp 299", 299, firstSpeed(1000, 299, 300));
        due.is("the splice speed, ramp 301", 300, firstSpeed(1000, 301, 300));
    }

    private static int speedGoingDown(int target, int ramp) {
        WebTensionLine x = line(5000);
        x.run(1);
        x.setSpeed(target, ramp);
        x.run(1);
        return x.value(2);
    }

    private static void atMostTheRampDown() {
        due.topic("the base speed approaches the wanted speed by at most the ramp: down");
        due.is("ramp 599", 401, speedGoingDown(400, 599));
        due.is("ramp 600", 400, speedGoingDown(400, 600));
        due.is("ramp 601", 400, speedGoingDown(400, 601));
        due.is("ramp 999 to 0", 1, speedGoingDown(0, 999));
        due.is("ramp 1000 to 0", 0, speedGoingDown(0, 1000));
        due.is("ramp 5000 to 0", 0, speedGoingDown(0, 5000));
    }

    private static void remainingZeroIsNotNegative() {
        due.topic("if the remaining length is negative then: 0 is not");
        WebTensionLine x = line(1000);
        due.is("run(1), empty queue", 0, x.run(1));
        due.is("remaining", 0, x.web(0));
        due.is("events", 0, x.value(7));
        x = line(1000, 5000);
        due.is("run(1), a roll in the queue", 0, x.run(1));
        due.is("remaining", 0, x.web(0));
        due.is("rolls in the queue", 1, x.value(6));
        due.is("marks", 0, x.value(4));
        due.is("events", 0, x.value(7));
        x = line(1000, 5000);
        x.setSplicing(999, 0);
        x.setSpeed(1000, 5000);
        due.is("run(1), above the splice speed", 0, x.run(1));
        due.is("breakAt()", WebTensionLine.NONE, x.breakAt());
    }

    private static void outOfWebIfTheQueueIsEmpty() {
        due.topic("if it is negative then: if the queue is empty, the state becomes 2");
        WebTensionLine x = line(999);
        due.is("run(1)", OUT, x.run(1));
        due.is("remaining", -1, x.web(0));
        due.is("events", 1, x.value(7));
        due.is("event(0, 0)", 1, x.event(0, 0));
        due.is("event(0, 1)", 4, x.event(0, 1));
        due.is("event(0, 2)", 0, x.event(0, 2));
        due.is("breakAt()", WebTensionLine.NONE, x.breakAt());
    }

    private static WebTensionLine spliceAt(int spliceSpeed) {
        WebTensionLine x = line(999, 5000);
        x.setSplicing(spliceSpeed, 0);
        x.run(1);
        due.is("base speed", 1000, x.value(2));
        return x;
    }

    private static void brokenIfTheBaseSpeedIsGreater() {
        due.topic("if the base speed is greater than the splice speed, the state becomes 1");
        WebTensionLine x = spliceAt(999);
        due.is("state", BROKEN, x.value(1));
        due.is("breakAt()", -1, x.breakAt());
        due.is("events", 1, x.value(7));
        due.is("event(0, 0)", 1, x.event(0, 0));
        due.is("event(0, 1)", 1, x.event(0, 1));
        due.is("event(0, 2)", -1, x.event(0, 2));
        due.is("remaining", -1, x.web(0));
        due.is("rolls in the queue", 1, x.value(6));
        due.is("marks", 0, x.value(4));
    }

    private static void splicedIfTheBaseSpeedIsNotGreater() {
        due.topic("otherwise there is an event 0: the base speed is just the splice speed");
        WebTensionLine x = spliceAt(1000);
        due.is("state", 0, x.value(1));
        due.is("breakAt()", WebTensionLine.NONE, x.breakAt());
        due.is("events", 1, x.value(7));
        due.is("event(0, 0)", 1, x.event(0, 0));
        due.is("event(0, 1)", 0, x.event(0, 1));
        due.is("event(0, 2)", 0, x.event(0, 2));
        due.is("remaining", 4999, x.web(0));
        due.is("rolls in the queue", 0, x.value(6));
        due.is("marks", 1, x.value(4));
    }

    /** Web is missing before the line comes to stand, and the splice speed is 0. */
    private static void splicedAtSpeedZero() {
        due.topic("if the base speed is greater than the splice speed: 0 is not greater than 0");
        WebTensionLine x = line(999, 1, 5000);
        x.run(1);
        due.is("web is missing", 0, x.web(0));
        x = line(998, 1, 5000);
        x.run(1);
        due.is("web is missing", -1, x.web(0));
        x.setSplicing(0, 0);
        x.setSpeed(0, 1000);
        due.is("run(1)", 0, x.run(1));
        due.is("base speed", 0, x.value(2));
        due.is("remaining", 4999, x.web(0));
        due.is("marks", 2, x.value(4));
    }

    private static void outOfWebAtAnySpeed() {
        due.topic("if the queue is empty, the state becomes 2, at any base speed");
        WebTensionLine x = line(999);
        x.setSplicing(0, 0);
        due.is("run(1), above the splice speed", OUT, x.run(1));
        x = line(998, 1);
        x.run(1);
        x.setSpeed(0, 1000);
        due.is("run(1), standing", OUT, x.run(1));
        due.is("remaining", -1, x.web(0));
    }

    private static void theFirstRollOfTheQueue() {
        due.topic("the length of the first roll of the queue, which is taken from it");
        WebTensionLine x = line(999, 2000, 30000, 400000);
        x.run(1);
        due.is("remaining", 1999, x.web(0));
        due.is("length in the queue", 430000, x.web(1));
        x.run(2);
        due.is("remaining", 29999, x.web(0));
        due.is("length in the queue", 400000, x.web(1));
        due.is("rolls in the queue", 1, x.value(6));
    }

    private static void aRollShorterThanWhatIsMissing() {
        due.topic("the remaining length stays negative if the roll is shorter than what is missing");
        WebTensionLine x = line(1, 998, 5000);
        due.is("run(1)", 0, x.run(1));
        due.is("remaining", -1, x.web(0));
        due.is("one splice in a tick", 1, x.value(4));
        due.is("rolls in the queue", 1, x.value(6));
        due.is("run(1)", 0, x.run(1));
        due.is("remaining", 3999, x.web(0));
        due.is("marks", 2, x.value(4));
    }

    private static void aRollJustAsLongAsWhatIsMissing() {
        due.topic("the remaining length is 0 if the roll is just as long as what is missing");
        WebTensionLine x = line(1, 999, 5000);
        x.run(1);
        due.is("remaining", 0, x.web(0));
        due.is("rolls in the queue", 1, x.value(6));
        x.setSpeed(0, 1000);
        due.is("run(1), standing", 0, x.run(1));
        due.is("marks", 1, x.value(4));
    }

    private static void theMarkLiesWhereTheOldRollEnded() {
        due.topic("as far behind roller 0 as the remaining length is below 0");
        int[][] distances = {{999, 99999}, {998, 99998}, {1, 99001}};
        for (int[] one : distances) {
            WebTensionLine x = line(one[0], 500000);
            x.run(1);
            due.is("markDistance(0) after " + one[0], one[1], x.markDistance(0));
            due.is("measure(0, 5)", 1, x.measure(0, 5));
        }
    }

    /** Two spans of 100000, 101 ticks of 1000: roller 1 has passed the first 1000 of the web. */
    private static WebTensionLine twoSpans(int roll) {
        WebTensionLine x = line();
        x.addSpan(100000);
        x.loadRoll(roll);
        x.loadRoll(100000000);
        x.run(101);
        return x;
    }

    private static void aMarkJustAtARoller() {
        due.topic("a mark has passed a roller .. also if it is just at the roller");
        WebTensionLine x = twoSpans(1001);
        due.is("1 before: span 0", 1, x.measure(0, 5));
        due.is("1 before: span 1", 0, x.measure(1, 5));
        due.is("1 before: distance", 100001, x.markDistance(0));
        x = twoSpans(1000);
        due.is("just at it: span 0", 0, x.measure(0, 5));
        due.is("just at it: span 1", 1, x.measure(1, 5));
        due.is("just at it: distance", 100000, x.markDistance(0));
        x = twoSpans(999);
        due.is("1 behind: span 0", 0, x.measure(0, 5));
        due.is("1 behind: span 1", 1, x.measure(1, 5));
        due.is("1 behind: distance", 99999, x.markDistance(0));
    }

    private static void aMarkJustAtTheLastRoller() {
        due.topic("when a mark passes the last roller, it is removed");
        WebTensionLine x = twoSpans(1001);
        x.run(100);
        due.is("1 before: marks", 1, x.value(4));
        due.is("1 before: span 1", 1, x.measure(1, 5));
        due.is("1 before: distance", 1, x.markDistance(0));
        x = twoSpans(1000);
        x.run(100);
        due.is("just at it: marks", 0, x.value(4));
        due.is("just at it: span 1", 0, x.measure(1, 5));
        due.is("just at it: distance", NO_VALUE, x.markDistance(0));
        x = twoSpans(1001);
        x.loadRoll(1);
        x.run(101);
        due.is("1 before in the tick before: marks", 0, x.value(4));
    }

    /** In tick 101 the last roller passes 1020, and the tension becomes 200. */
    private static int stateAtTheLastRoller(int roll) {
        WebTensionLine x = line(roll, 100000000);
        x.setSplicing(20000, 0);
        x.setWeb(999800, 0);
        x.setStrength(1000, 1);
        due.is("run(100), without tension", 0, x.run(100));
        x.setDraw(1, 20000);
        int state = x.run(1);
        due.is("tension", 200, x.measure(0, 0));
        return state;
    }

    private static void aMarkJustAtTheLastRollerWeakensNoSpan() {
        due.topic("removed in part 6 of a tick, before the tensions are determined");
        due.is("1 before the last roller", BROKEN, stateAtTheLastRoller(1021));
        due.is("just at the last roller", 0, stateAtTheLastRoller(1020));
        due.is("1 behind the last roller", 0, stateAtTheLastRoller(1019));
    }

    /** So much web is missing that in tick 7 the places of all splices have passed the line. */
    private static void aMarkMadeBehindTheLastRoller() {
        due.topic("a mark that is made behind the last roller is removed in the same tick");
        WebTensionLine x = line(1, 1, 1, 1, 1);
        x.setSpeed(20000, 5000);
        x.setSplicing(20000, 0);
        x.run(4);
        x.loadRoll(1);
        x.loadRoll(1);
        x.loadRoll(1);
        x.run(2);
        due.is("marks after 6", 6, x.value(4));
        due.is("remaining after 6", -89993, x.web(0));
        due.is("markDistance(0)", 10001, x.markDistance(0));
        due.is("run(1)", 0, x.run(1));
        due.is("remaining after 7", -109992, x.web(0));
        due.is("marks after 7", 0, x.value(4));
        due.is("splices after 7", 7, x.value(7));
        due.is("measure(0, 5)", 0, x.measure(0, 5));
    }

    /** 320 splices, each of them 1 behind the other, in a span so long that all stay in it. */
    private static void manyMarks() {
        due.topic("as many marks as calls can make");
        WebTensionLine x = new WebTensionLine();
        x.reset(10000000);
        x.setSpeed(20, 20);
        x.loadRoll(1);
        for (int round = 0; round < 80; round++) {
            for (int roll = 0; roll < 4; roll++) {
                x.loadRoll(1);
            }
            due.is("run(4)", 0, x.run(4));
        }
        due.is("marks", 320, x.value(4));
        due.is("measure(0, 5)", 320, x.measure(0, 5));
        due.is("markDistance(0)", 9993601, x.markDistance(0));
        due.is("markDistance(319)", 9993920, x.markDistance(319));
        due.is("markDistance(320)", NO_VALUE, x.markDistance(320));
        due.is("outlook(300): all of them are looked through", 12, x.outlook(300));
    }

    private static WebTensionLine wound(int rollLength) {
        WebTensionLine x = line(100000000);
        x.setRollLength(rollLength);
        x.run(101);
        return x;
    }

    private static void finishedIfAtLeastTheRollLength() {
        due.topic("if the length on the rewinder is at least the roll length");
        WebTensionLine x = wound(101001);
        due.is("1 less: finished", 0, x.value(5));
        due.is("1 less: length", 101000, x.web(2));
        x = wound(101000);
        due.is("just as much: finished", 1, x.value(5));
        due.is("just as much: length", 0, x.web(2));
        due.is("just as much: time of the event", 101, x.event(1, 0));
        due.is("just as much: kind", 5, x.event(1, 1));
        due.is("just as much: place", 1, x.event(1, 2));
        x = wound(100999);
        due.is("1 more: finished", 1, x.value(5));
        due.is("1 more: length", 1, x.web(2));
    }

    private static void finishedOnceInATick() {
        due.topic("this happens at most once in a tick");
        WebTensionLine x = line(100000000);
        x.run(299);
        due.is("length", 299000, x.web(2));
        x.setRollLength(100000);
        x.run(1);
        due.is("length after one", 200000, x.web(2));
        due.is("finished", 1, x.value(5));
        due.is("events", 2, x.value(7));
        x.run(1);
        due.is("length after two", 101000, x.web(2));
        due.is("finished", 2, x.value(5));
        x.run(1);
        due.is("length after three", 2000, x.web(2));
        due.is("finished", 3, x.value(5));
        x.run(1);
        due.is("length after four", 3000, x.web(2));
        due.is("finished", 3, x.value(5));
        due.is("place of the last event", 3, x.event(3, 2));
    }

    private static void finishedWhileTheLineStands() {
        due.topic("part 4 is carried out at the base speed 0 too");
        WebTensionLine x = line(100000000);
        x.run(100);
        x.setSpeed(0, 1000);
        x.run(1);
        due.is("finished", 0, x.value(5));
        x.setRollLength(100000);
        due.is("finished by the setting alone", 0, x.value(5));
        x.run(1);
        due.is("finished", 1, x.value(5));
        due.is("length", 0, x.web(2));
    }
}

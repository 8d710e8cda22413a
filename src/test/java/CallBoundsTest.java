/** The boundary cases that the promises name for single calls, a test each. */
public final class CallBoundsTest {
    private static final int OUT = 2;
    private static final int BROKEN = 1;
    private static final int BAD = WebTensionLine.BAD_VALUE;
    private static final int NOT_NOW = WebTensionLine.NOT_NOW;
    private static final int FULL = WebTensionLine.FULL;
    private static final int NONE = WebTensionLine.NONE;
    private static final long NO_VALUE = WebTensionLine.NO_VALUE;
    private static final Due due = new Due();

    public static void main(String[] args) {
        resetReturnsTheTime();
        resetFromEveryState();
        buildingAtTimeZero();
        buildingAtTimeOne();
        buildingAfterARefusedRun();
        buildingAfterReset();
        fullAtSixSpans();
        aSpanAddedAfterReset();
        materialBecomesTheLength();
        oneIfItHadAController();
        oneIfOneOfThemChanges();
        thePreviousOne();
        theDrawOfRollerZero();
        loadRollIfTheRemainingLengthIsZero();
        loadRollIfTheRemainingLengthIsNotZero();
        loadRollIfTheQueueIsNotEmpty();
        loadRollIfTheRemainingLengthIsNegative();
        fullAtFourRolls();
        runReturnsTheState();
        runOverTheEnd();
        threadIfTheStateIsZero();
        threadIfTheStateIsNotZero();
        threadAndTheRemainingLength();
        threadAndTheDancer();
        threadAndTheSlackCount();
        threadWithSixSpans();
        marksInTheLine();
        breakAtOfTheLatestBreak();
        noDancer();
        speedAsItWouldBe();
        markNumbers();
        slackFromTwentyOn();
        eventNumbers();
        steadyTensionIsAtLeastZero();
        steadyTensionOfTheTargetOne();
        theBestDrawAtTheEnds();
        onlyMultiplesOfFifty();
        theLeastOneOfSeveral();
        bestDrawOfTheTargetOne();
        forecastOfThePresentTension();
        forecastOfTheTicksAlone();
        forecastOverTheEnd();
        outlookOfTheTick();
        outlookOfAState();
        outlookInTheFirstTick();
        due.end();
    }

    /** A span of 100000 and a base speed of 5000 from the first tick on. */
    private static WebTensionLine line(int... rolls) {
        WebTensionLine x = new WebTensionLine();
        x.reset(100000);
        x.setSpeed(5000, 5000);
        x.setSplicing(20000, 0);
        for (int roll : rolls) {
            x.loadRoll(roll);
        }
        return x;
    }

    /** The same with a tension of 1000 after the first tick. */
    private static WebTensionLine tightLine(int... rolls) {
        WebTensionLine x = line(rolls);
        x.setWeb(999000, 0);
        x.setDraw(1, 20000);
        return x;
    }

    private static WebTensionLine broken() {
        WebTensionLine x = tightLine(100000000);
        x.setWeb(999999, 0);
        x.setStrength(1000, 500);
        due.is("broken", BROKEN, x.run(1));
        return x;
    }

    private static void resetReturnsTheTime() {
        due.topic("reset returns the time that had passed");
        WebTensionLine x = new WebTensionLine();
        due.is("0", 0, x.reset(100000));
        x.run(1);
        due.is("1", 1, x.reset(100000));
        due.is("0 again", 0, x.reset(100000));
        x.run(300);
        x.run(300);
        due.is("600", 600, x.reset(100000));
        x.run(3);
        due.is("refused", BAD, x.reset(99999));
        due.is("3", 3, x.reset(100000));
        x = line(9999);
        x.run(300);
        due.is("the web ended in tick 2", 2, x.reset(100000));
    }

    private static void resetFromEveryState() {
        due.topic("reset starts anew, all else becomes as at first: in every state");
        WebTensionLine out = tightLine(1);
        due.is("run(1)", OUT, out.run(1));
        WebTensionLine threaded = broken();
        threaded.thread();
        WebTensionLine spliced = line(1, 2, 3);
        spliced.setDancer(0, 1001, 700, 1, 1000, 1000);
        spliced.run(1);
        WebTensionLine twice = broken();
        twice.reset(500000);
        WebTensionLine[] lines = {new WebTensionLine(), line(7, 8), spliced, broken(), out,
            threaded, twice};
        String first = Readings.of(new WebTensionLine());
        for (int i = 0; i < lines.length; i++) {
            lines[i].reset(1000000);
            due.holds("line " + i, first.equals(Readings.of(lines[i])));
            due.is("web of " + i, 0, lines[i].setWeb(1000000, 0));
            due.is("strength of " + i, 0, lines[i].setStrength(1000000, 500));
            due.is("speed of " + i, 0, lines[i].setSpeed(0, 100));
            due.is("splicing of " + i, 0, lines[i].setSplicing(1000, 0));
            due.is("roll length of " + i, 1000000000, lines[i].setRollLength(1000000000));
            due.is("controller of " + i, 0, lines[i].setLoadCell(0, 0, 0));
        }
    }

    private static void buildingAtTimeZero() {
        due.topic("NOT_NOW if the time is not 0: 0");
        WebTensionLine x = line(1000);
        due.is("addSpan", 1, x.addSpan(100000));
        due.is("setDancer", 0, x.setDancer(0, 8, 8, 8, 8, 8));
        due.is("setLoadCell", 0, x.setLoadCell(1, 8, 8));
        due.is("setWeb", 1, x.setWeb(5000, 5));
    }

    private static void refusesBuilding(WebTensionLine x) {
        due.is("addSpan", NOT_NOW, x.addSpan(100000));
        due.is("setDancer", NOT_NOW, x.setDancer(0, 8, 8, 8, 8, 8));
        due.is("setLoadCell", NOT_NOW, x.setLoadCell(0, 8, 8));
        due.is("setWeb", NOT_NOW, x.setWeb(5000, 5));
        due.is("setWeb as it is", NOT_NOW, x.setWeb(1000000, 0));
        due.is("spans", 1, x.value(3));
        due.is("no dancer", NO_VALUE, x.measure(0, 6));
    }

    private static void buildingAtTimeOne() {
        due.topic("NOT_NOW if the time is not 0: 1");
        WebTensionLine x = line(1000000);
        x.run(1);
        refusesBuilding(x);
        x = new WebTensionLine();
        x.run(1);
        due.is("standing", 0, x.value(2));
        refusesBuilding(x);
        x = line(1);
        due.is("out of web", OUT, x.run(1));
        refusesBuilding(x);
        x.thread();
        refusesBuilding(x);
    }

    private static void buildingAfterARefusedRun() {
        due.topic("NOT_NOW if the time is not 0: no tick was carried out");
        WebTensionLine x = line(1000);
        x.run(0);
        x.run(301);
        x.outlook(300);
        x.forecast(0, 300);
        due.is("addSpan", 1, x.addSpan(100000));
        due.is("setWeb", 1, x.setWeb(5000, 5));
    }

    private static void buildingAfterReset() {
        due.topic("NOT_NOW if the time is not 0: 0 again");
        WebTensionLine x = line(1000000);
        x.run(7);
        x.reset(100000);
        due.is("addSpan", 1, x.addSpan(100000));
        due.is("setDancer", 0, x.setDancer(0, 8, 8, 8, 8, 8));
        due.is("setLoadCell", 0, x.setLoadCell(1, 8, 8));
        due.is("setWeb", 1, x.setWeb(5000, 5));
    }

    private static void fullAtSixSpans() {
        due.topic("FULL if there are 6 spans");
        WebTensionLine x = new WebTensionLine();
        for (int span = 1; span <= 5; span++) {
            due.is("with " + span, span, x.addSpan(100000));
        }
        due.is("with 6", FULL, x.addSpan(100000));
        due.is("with 6 again", FULL, x.addSpan(10000000));
        due.is("spans", 6, x.value(3));
        due.is("the last span stays", 100000, x.measure(5, 2));
        x.reset(100000);
        due.is("with 1 again", 1, x.addSpan(100000));
    }

    private static void aSpanAddedAfterReset() {
        due.topic("with the draw 0 for the new last roller, its material is its length");
        WebTensionLine x = line(1000000);
        x.addSpan(100000);
        x.setDancer(1, 1000, 0, 1, 0, 0);
        x.setDraw(1, 300);
        x.setDraw(2, 700);
        x.run(30);
        x.reset(200000);
        due.is("draw of roller 1", 0, x.roller(1, 2));
        due.is("addSpan", 1, x.addSpan(300000));
        due.is("draw of roller 2", 0, x.roller(2, 2));
        due.is("passage of roller 2", 0, x.roller(2, 0));
        due.is("material", 300000, x.measure(1, 1));
        due.is("length", 300000, x.measure(1, 2));
        due.is("greatest tension", 0, x.measure(1, 3));
        due.is("slack count", 0, x.measure(1, 4));
        due.is("no dancer", NO_VALUE, x.measure(1, 6));
    }

    private static void materialBecomesTheLength() {
        due.topic("the material of the span becomes its length");
        WebTensionLine x = line(1000000);
        x.setDancer(0, 999, 0, 1, 0, 0);
        due.is("material with a dancer", 100998, x.measure(0, 1));
        x.setDancer(0, 2, 0, 1, 0, 0);
        due.is("material with another", 100002, x.measure(0, 1));
        x.setLoadCell(0, 0, 0);
        due.is("material with a load cell", 100000, x.measure(0, 1));
        due.is("tension", 0, x.measure(0, 0));
    }

    private static void oneIfItHadAController() {
        due.topic("returns 1 if it had a controller, otherwise 0");
        WebTensionLine x = line(1000000);
        x.addSpan(100000);
        due.is("a load cell on none", 0, x.setLoadCell(0, 0, 0));
        due.is("a refused load cell", BAD, x.setLoadCell(1, -1, 0));
        due.is("a refused dancer", BAD, x.setDancer(1, 1, 0, 1, 0, 0));
        due.is("a dancer on none", 0, x.setDancer(1, 2, 0, 1, 0, 0));
        due.is("a load cell on a load cell", 1, x.setLoadCell(0, 0, 0));
        due.is("a dancer on a load cell", 1, x.setDancer(0, 2, 0, 1, 0, 0));
        due.is("a dancer on a dancer", 1, x.setDancer(1, 2, 0, 1, 0, 0));
        due.is("a load cell on a dancer", 1, x.setLoadCell(1, 0, 0));
        x.reset(100000);
        due.is("a load cell after reset", 0, x.setLoadCell(0, 0, 0));
    }

    private static void oneIfOneOfThemChanges() {
        due.topic("returns 1 if one of them changes, otherwise 0");
        WebTensionLine x = new WebTensionLine();
        due.is("setWeb, none", 0, x.setWeb(1000000, 0));
        due.is("setWeb, the first", 1, x.setWeb(1000001, 0));
        due.is("setWeb, the second", 1, x.setWeb(1000001, 1));
        due.is("setWeb, both", 1, x.setWeb(1000000, 0));
        due.is("setStrength, none", 0, x.setStrength(1000000, 500));
        due.is("setStrength, the first", 1, x.setStrength(1000001, 500));
        due.is("setStrength, the second", 1, x.setStrength(1000001, 501));
        due.is("setStrength, both", 1, x.setStrength(1000000, 500));
        due.is("setSpeed, none", 0, x.setSpeed(0, 100));
        due.is("setSpeed, the first", 1, x.setSpeed(1, 100));
        due.is("setSpeed, the second", 1, x.setSpeed(1, 101));
        due.is("setSpeed, both", 1, x.setSpeed(0, 100));
        due.is("setSplicing, none", 0, x.setSplicing(1000, 0));
        due.is("setSplicing, the first", 1, x.setSplicing(1001, 0));
        due.is("setSplicing, the second", 1, x.setSplicing(1001, 1));
        due.is("setSplicing, both", 1, x.setSplicing(1000, 0));
    }

    private static void thePreviousOne() {
        due.topic("returns the previous draw, the previous length");
        WebTensionLine x = new WebTensionLine();
        due.is("setDraw at first", 0, x.setDraw(1, -1));
        due.is("setDraw then", -1, x.setDraw(1, -1));
        due.is("setDraw refused", BAD, x.setDraw(1, 20001));
        due.is("setDraw after it", -1, x.setDraw(1, 0));
        due.is("setRollLength at first", 1000000000, x.setRollLength(100001));
        due.is("setRollLength then", 100001, x.setRollLength(100001));
        due.is("setRollLength refused", BAD, x.setRollLength(99999));
        due.is("setRollLength after it", 100001, x.setRollLength(100000));
    }

    private static void theDrawOfRollerZero() {
        due.topic("setDraw, roller: 1 to n; its draw (0 for roller 0)");
        WebTensionLine x = new WebTensionLine();
        due.is("setDraw of roller 0", WebTensionLine.NO_SUCH_PLACE, x.setDraw(0, 5));
        due.is("draw of roller 0", 0, x.roller(0, 2));
        due.is("setDraw of roller 1", 0, x.setDraw(1, 5));
        due.is("draw of roller 1", 5, x.roller(1, 2));
        due.is("setDraw of roller 2", WebTensionLine.NO_SUCH_PLACE, x.setDraw(2, 5));
        x.addSpan(100000);
        due.is("draw of roller 2", 0, x.roller(2, 2));
        due.is("setDraw of roller 2", 0, x.setDraw(2, 5));
    }

    private static void loadRollIfTheRemainingLengthIsZero() {
        due.topic("as the present one if the remaining length is 0 and nothing is in the queue");
        WebTensionLine x = line();
        due.is("at first", 0, x.loadRoll(5000));
        due.is("remaining", 5000, x.web(0));
        x.run(1);
        due.is("remaining", 0, x.web(0));
        due.is("used up", 0, x.loadRoll(7));
        due.is("remaining", 7, x.web(0));
        due.is("length in the queue", 0, x.web(1));
    }

    private static void loadRollIfTheRemainingLengthIsNotZero() {
        due.topic("otherwise at the end of the queue: the remaining length is 1");
        WebTensionLine x = line(5001);
        x.run(1);
        due.is("remaining", 1, x.web(0));
        due.is("loadRoll", 1, x.loadRoll(7));
        due.is("remaining", 1, x.web(0));
        due.is("length in the queue", 7, x.web(1));
    }

    private static void loadRollIfTheQueueIsNotEmpty() {
        due.topic("otherwise at the end of the queue: the remaining length is 0, not the queue");
        WebTensionLine x = line(5000, 300);
        x.run(1);
        due.is("remaining", 0, x.web(0));
        due.is("loadRoll", 2, x.loadRoll(70000));
        due.is("remaining", 0, x.web(0));
        due.is("length in the queue", 70300, x.web(1));
        x.run(2);
        due.is("the end of the queue", 70300 - 10000, x.web(0));
    }

    private static void loadRollIfTheRemainingLengthIsNegative() {
        due.topic("otherwise at the end of the queue: the remaining length is -1");
        WebTensionLine x = line(4999);
        due.is("run(1)", OUT, x.run(1));
        due.is("remaining", -1, x.web(0));
        due.is("loadRoll, out of web", 1, x.loadRoll(7));
        due.is("remaining", -1, x.web(0));
        x = line(4998, 1);
        due.is("run(1)", 0, x.run(1));
        due.is("remaining", -1, x.web(0));
        due.is("rolls in the queue", 0, x.value(6));
        due.is("loadRoll, running", 1, x.loadRoll(6000));
        due.is("remaining", -1, x.web(0));
        due.is("run(1)", 0, x.run(1));
        due.is("remaining", 999, x.web(0));
    }

    private static void fullAtFourRolls() {
        due.topic("FULL if there are 4 in the queue");
        WebTensionLine x = line(5000);
        for (int queued = 1; queued <= 4; queued++) {
            due.is("the queue then", queued, x.loadRoll(10));
        }
        due.is("with 4", FULL, x.loadRoll(10));
        due.is("rolls in the queue", 4, x.value(6));
        due.is("length in the queue", 40, x.web(1));
        x.run(2);
        due.is("rolls in the queue", 3, x.value(6));
        due.is("with 3", 4, x.loadRoll(10));
        due.is("with 4", FULL, x.loadRoll(10));
    }

    private static void runReturnsTheState() {
        due.topic("run returns the state then");
        WebTensionLine x = line(9999);
        due.is("run(1), before the end", 0, x.run(1));
        due.is("run(1), the end", OUT, x.run(1));
        due.is("run(1), behind it", OUT, x.run(1));
        x.thread();
        x.loadRoll(100000000);
        due.is("run(1), threaded", 0, x.run(1));
    }

    private static void runOverTheEnd() {
        due.topic("run carries out ticks: those behind the end do nothing");
        WebTensionLine x = line(9999);
        due.is("run(300)", OUT, x.run(300));
        due.is("time", 2, x.value(0));
        due.is("remaining", -1, x.web(0));
    }

    private static void threadIfTheStateIsZero() {
        due.topic("thread: NOT_NOW if the state is 0");
        WebTensionLine x = tightLine(5000);
        due.is("at first", NOT_NOW, x.thread());
        x.run(1);
        String before = Readings.of(x);
        due.is("running, 0 remaining", NOT_NOW, x.thread());
        due.holds("nothing changes", before.equals(Readings.of(x)));
        x.run(1);
        due.is("out of web", 1, x.thread());
        due.is("again", NOT_NOW, x.thread());
    }

    private static void threadIfTheStateIsNotZero() {
        due.topic("thread after a break or after running out of web: the state becomes 0");
        WebTensionLine x = broken();
        due.is("thread()", 1, x.thread());
        due.is("state", 0, x.value(1));
        due.is("base speed", 0, x.value(2));
        due.is("tension", 0, x.measure(0, 0));
        due.is("material", 100000, x.measure(0, 1));
        due.is("passage of roller 1", 5100, x.roller(1, 0));
        due.is("greatest tension", 1001, x.measure(0, 3));
        x = line(1);
        due.is("run(1)", OUT, x.run(1));
        due.is("thread()", 1, x.thread());
        due.is("state", 0, x.value(1));
        x = line(1, 1);
        x.setSplicing(0, 0);
        due.is("run(1)", BROKEN, x.run(1));
        due.is("thread()", 1, x.thread());
        due.is("state", 0, x.value(1));
        due.is("the queue stays", 1, x.value(6));
    }

    private static void threadAndTheRemainingLength() {
        due.topic("a negative remaining length becomes 0");
        WebTensionLine x = line(4999);
        x.run(1);
        due.is("before", -1, x.web(0));
        x.thread();
        due.is("-1", 0, x.web(0));
        int[][] lengths = {{5000, 0}, {5001, 1}, {4999, 0}};
        for (int[] one : lengths) {
            x = tightLine(one[0]);
            x.setWeb(10000000, 0);
            x.setStrength(1000, 500);
            due.is("run(1)", BROKEN, x.run(1));
            due.is("before", one[0] - 5000, x.web(0));
            x.thread();
            due.is("then", one[1], x.web(0));
        }
    }

    private static void threadAndTheDancer() {
        due.topic("sums of dancers become 0, dancers are at half their travel");
        WebTensionLine x = line(9999);
        x.setWeb(1000, 0);
        x.setDancer(0, 1001, 1000, 1, 1000, 0);
        due.is("run(2)", OUT, x.run(2));
        due.is("position before", 1001, x.measure(0, 6));
        due.is("sum before", 500 + 501, x.measure(0, 7));
        due.is("trim before", 501, x.roller(1, 3));
        x.thread();
        due.is("position", 500, x.measure(0, 6));
        due.is("sum", 0, x.measure(0, 7));
        due.is("trim", 0, x.roller(1, 3));
        due.is("length", 101000, x.measure(0, 2));
        due.is("material", 101000, x.measure(0, 1));
    }

    private static void threadAndTheSlackCount() {
        due.topic("slack counts become 0");
        WebTensionLine x = line(99999);
        due.is("run(20)", OUT, x.run(20));
        due.is("slack count before", 20, x.measure(0, 4));
        due.is("events before", 2, x.value(7));
        x.thread();
        due.is("slack count", 0, x.measure(0, 4));
        due.is("slackSpans()", 0, x.slackSpans());
        due.is("events", 2, x.value(7));
        due.is("run(19)", 0, runWithANewRoll(x, 19));
        due.is("events after 19", 2, x.value(7));
        x.run(1);
        due.is("events after 20: slack begins again", 3, x.value(7));
    }

    private static void threadWithSixSpans() {
        due.topic("the material of each span is its length: six spans");
        WebTensionLine x = line(99999);
        for (int span = 1; span < 6; span++) {
            x.addSpan(100000 + span);
        }
        x.setDancer(0, 1000, 500, 1, 1000, 0);
        x.setLoadCell(5, 1000000, 900);
        due.is("run(20)", OUT, x.run(20));
        due.holds("material of span 5 before", x.measure(5, 1) != 100005);
        due.is("trim of roller 6 before", 2000, x.roller(6, 3));
        due.is("thread()", 1, x.thread());
        for (int span = 0; span < 6; span++) {
            due.is("material of span " + span, span == 0 ? 101000 : 100000 + span,
                    x.measure(span, 1));
            due.is("length of span " + span, x.measure(span, 1), x.measure(span, 2));
            due.is("slack count of span " + span, 0, x.measure(span, 4));
            due.is("trim of roller " + (span + 1), 0, x.roller(span + 1, 3));
        }
        due.is("position", 500, x.measure(0, 6));
    }

    private static int runWithANewRoll(WebTensionLine x, int ticks) {
        x.loadRoll(100000000);
        return x.run(ticks);
    }

    private static void marksInTheLine() {
        due.topic("value: 4 for the number of marks in the line");
        WebTensionLine x = line(1, 10000, 100000000);
        due.is("none", 0, x.value(4));
        x.run(1);
        due.is("one", 1, x.value(4));
        x.run(2);
        due.is("two", 2, x.value(4));
        x.run(18);
        due.is("one has left", 1, x.value(4));
        x.run(2);
        due.is("both have left", 0, x.value(4));
    }

    private static void breakAtOfTheLatestBreak() {
        due.topic("breakAt: or -1 if it was at the unwinder; NONE if there has been no break");
        WebTensionLine x = line(1);
        due.is("at first", NONE, x.breakAt());
        x.run(1);
        due.is("out of web is no break", NONE, x.breakAt());
        x = line(1, 1);
        x.setSplicing(0, 0);
        x.run(1);
        due.is("at the unwinder", -1, x.breakAt());
        x.thread();
        due.is("threaded", -1, x.breakAt());
        x = broken();
        due.is("span 0", 0, x.breakAt());
        x.thread();
        due.is("threaded", 0, x.breakAt());
        x.reset(100000);
        due.is("reset", NONE, x.breakAt());
    }

    private static void noDancer() {
        due.topic("NO_VALUE if (6 and 7) it has no dancer");
        WebTensionLine x = line(1000);
        x.addSpan(100000);
        x.addSpan(100000);
        x.setDancer(1, 2, 0, 1, 0, 0);
        x.setLoadCell(2, 0, 0);
        long[][] values = {{NO_VALUE, NO_VALUE}, {1, 0}, {NO_VALUE, NO_VALUE}};
        for (int span = 0; span < 3; span++) {
            due.is("position of span " + span, values[span][0], x.measure(span, 6));
            due.is("sum of span " + span, values[span][1], x.measure(span, 7));
            due.is("marks in span " + span, 0, x.measure(span, 5));
        }
        x.setLoadCell(1, 0, 0);
        due.is("its position in place of the dancer", NO_VALUE, x.measure(1, 6));
        due.is("its sum in place of the dancer", NO_VALUE, x.measure(1, 7));
    }

    private static void speedAsItWouldBe() {
        due.topic("roller: 1 for its speed as it would be with the present base speed and trim");
        WebTensionLine x = line(1000000);
        x.setLoadCell(0, 1000000, -5000);
        due.is("before the first tick", 0, x.roller(1, 1));
        x.run(1);
        due.is("trim", -2000, x.roller(1, 3));
        due.is("5000 - 2000", 3000, x.roller(1, 1));
        x.setDraw(1, 20000);
        due.is("5100 - 2000", 3100, x.roller(1, 1));
        x.setSpeed(1999, 5000);
        due.is("the target alone", 3100, x.roller(1, 1));
    }

    private static void markNumbers() {
        due.topic("k: number of the mark, from 0, the one that was made first is 0");
        WebTensionLine x = line(1, 10000, 100000000);
        due.is("0 of none", NO_VALUE, x.markDistance(0));
        x.run(3);
        due.is("0 of two", 100001 - 15000, x.markDistance(0));
        due.is("1 of two", 110001 - 15000, x.markDistance(1));
        due.is("2 of two", NO_VALUE, x.markDistance(2));
        due.is("-1 of two", NO_VALUE, x.markDistance(-1));
        x.run(18);
        due.is("the first has left: 0", 110001 - 105000, x.markDistance(0));
        due.is("the first has left: 1", NO_VALUE, x.markDistance(1));
        due.is("the greatest k", NO_VALUE, x.markDistance(Integer.MAX_VALUE));
        due.is("the least k", NO_VALUE, x.markDistance(Integer.MIN_VALUE));
    }

    private static void slackFromTwentyOn() {
        due.topic("the spans that are slack (with a slack count of at least 20), as a bit set");
        WebTensionLine x = line(100000000);
        for (int span = 1; span < 6; span++) {
            x.addSpan(100000);
        }
        due.is("at first", 0, x.slackSpans());
        x.run(19);
        due.is("19", 0, x.slackSpans());
        x.run(1);
        due.is("20", 0b111111, x.slackSpans());
        x.run(1);
        due.is("21", 0b111111, x.slackSpans());
        x.setDraw(6, 20000);
        x.run(1);
        due.is("all but the last", 0b011111, x.slackSpans());
    }

    private static void eventNumbers() {
        due.topic("event: BAD_VALUE if k is negative; NONE if there is no such event");
        WebTensionLine x = line(99999, 100000000);
        x.run(20);
        due.is("events", 2, x.value(7));
        due.is("-1", BAD, x.event(-1, 0));
        due.is("0", 20, x.event(0, 0));
        due.is("1", 20, x.event(1, 0));
        due.is("2", NONE, x.event(2, 0));
        due.is("29", NONE, x.event(29, 0));
        due.is("30", NONE, x.event(30, 0));
        due.is("the greatest", NONE, x.event(Integer.MAX_VALUE, 2));
        due.is("the least", BAD, x.event(Integer.MIN_VALUE, 2));
        due.is("2, what 3", BAD, x.event(2, 3));
        due.is("2, what -1", BAD, x.event(2, -1));
        due.is("a finished roll's place is no error", 0, x.event(0, 2));
    }

    private static int steadyTension(int wound, int draw) {
        WebTensionLine x = new WebTensionLine();
        x.setWeb(1000000, wound);
        x.setDraw(1, draw);
        x.setSpeed(1000, 1);
        return x.steadyTension(0);
    }

    private static void steadyTensionIsAtLeastZero() {
        due.topic("((K + W) * v - K * w) / w, but at least 0");
        due.is("of -1000", 0, steadyTension(0, -1000));
        due.is("of -0.001", 0, steadyTension(1001, -1000));
        due.is("of 0", 0, steadyTension(0, 0));
        due.is("of 0.998", 0, steadyTension(1002, -1000));
        due.is("of 1", 1, steadyTension(1, 0));
    }

    private static void steadyTensionOfTheTargetOne() {
        due.topic("NONE if the target is 0");
        WebTensionLine x = line(1000000);
        x.setWeb(1000000, 7);
        x.setSpeed(0, 5000);
        due.is("0", NONE, x.steadyTension(0));
        x.setSpeed(1, 5000);
        due.is("1", 7, x.steadyTension(0));
        x.setDraw(1, -1);
        due.is("1, roller 1 at the speed 0", 0, x.steadyTension(0));
        x.run(1);
        x.setSpeed(0, 5000);
        due.is("0, the base speed is 1", NONE, x.steadyTension(0));
        due.is("bestDraw with 0", NONE, x.bestDraw(0, 5));
    }

    /** At the target 20000 a draw of 50 makes a tension of 50. */
    private static int bestDraw(int wanted) {
        WebTensionLine x = new WebTensionLine();
        x.setSpeed(20000, 1);
        return x.bestDraw(0, wanted);
    }

    private static void theBestDrawAtTheEnds() {
        due.topic("draws from -20000 to 20000 are tried");
        due.is("19974", 19950, bestDraw(19974));
        due.is("19976", 20000, bestDraw(19976));
        due.is("20000", 20000, bestDraw(20000));
        due.is("20051", 20000, bestDraw(20051));
        due.is("1000000", 20000, bestDraw(1000000));
        WebTensionLine x = new WebTensionLine();
        x.setWeb(1000000, 100000);
        x.setSpeed(20000, 1);
        x.setDraw(1, -20000);
        due.is("steadyTension(0) with the draw -20000", 78000, x.steadyTension(0));
        due.is("78000", -20000, x.bestDraw(0, 78000));
        due.is("78027", -20000, x.bestDraw(0, 78027));
        due.is("78028", -19950, x.bestDraw(0, 78028));
    }

    private static void onlyMultiplesOfFifty() {
        due.topic("draws that are multiples of 50 are tried");
        due.is("1000", 1000, bestDraw(1000));
        due.is("1024", 1000, bestDraw(1024));
        due.is("1026", 1050, bestDraw(1026));
        due.is("1049", 1050, bestDraw(1049));
        due.is("1051", 1050, bestDraw(1051));
    }

    private static void theLeastOneOfSeveral() {
        due.topic("returns the draw, the least one of several");
        due.is("0: all up to 0", -20000, bestDraw(0));
        due.is("24: all up to 0", -20000, bestDraw(24));
        due.is("25: all up to 50", -20000, bestDraw(25));
        due.is("26: 50 alone", 50, bestDraw(26));
        due.is("1025: 1000 and 1050", 1000, bestDraw(1025));
        due.is("1075: 1050 and 1100", 1050, bestDraw(1075));
        due.is("19975: 19950 and 20000", 19950, bestDraw(19975));
    }

    private static void bestDrawOfTheTargetOne() {
        due.topic("bestDraw: NONE if the target is 0");
        WebTensionLine x = new WebTensionLine();
        due.is("0", NONE, x.bestDraw(0, 0));
        x.setSpeed(1, 1);
        due.is("1: v is 0 or 1", -20000, x.bestDraw(0, 1000000));
        x.setWeb(1000000, 10);
        due.is("1: v is 1 from the draw 0 on", 0, x.bestDraw(0, 10));
    }

    private static void forecastOfThePresentTension() {
        due.topic("forecast: of the present one if the state is not 0");
        WebTensionLine x = broken();
        due.is("broken", 1001, x.forecast(0, 1));
        due.is("broken", 1001, x.forecast(0, 300));
        due.is("broken, ticks 0", NO_VALUE, x.forecast(0, 0));
        due.is("broken, span 1", NO_VALUE, x.forecast(1, 300));
        x = tightLine(4999);
        due.is("run(1)", OUT, x.run(1));
        due.is("out of web", 1000, x.forecast(0, 300));
        x.thread();
        due.is("threaded, running out again", 1000, x.forecast(0, 300));
    }

    /** The tension is 1000 now, and less at the end of each tick to come. */
    private static void forecastOfTheTicksAlone() {
        due.topic("forecast: the greatest one of the tensions at the end of these ticks");
        WebTensionLine x = tightLine(100000000);
        due.is("forecast(0, 1)", 1000, x.forecast(0, 1));
        x.run(1);
        x.setDraw(1, -20000);
        long next = x.forecast(0, 1);
        due.holds("less than the present one", next < 1000);
        due.is("the first one is the greatest", next, x.forecast(0, 300));
        x.run(1);
        due.is("it comes true", next, x.measure(0, 0));
    }

    private static void forecastOverTheEnd() {
        due.topic("forecast: the tension of a line that stops in these ticks");
        WebTensionLine x = tightLine(4999);
        due.is("forecast(0, 1)", 1000, x.forecast(0, 1));
        due.is("forecast(0, 300)", 1000, x.forecast(0, 300));
        x.run(300);
        due.is("tension", 1000, x.measure(0, 0));
    }

    private static void outlookOfTheTick() {
        due.topic("outlook: 10 * (the number of ticks) + (this state); 0 if it stays 0");
        WebTensionLine x = line(99999);
        due.is("outlook(19)", 0, x.outlook(19));
        due.is("outlook(20)", 202, x.outlook(20));
        due.is("outlook(21)", 202, x.outlook(21));
        x.run(19);
        due.is("outlook(1)", 12, x.outlook(1));
        x.run(1);
        due.is("outlook(1), out of web", OUT, x.outlook(1));
        x = line(5000 * 300);
        due.is("outlook(300), 300 ticks of web", 0, x.outlook(300));
        x = line(5000 * 300 - 1);
        due.is("outlook(300), 1 less", 3002, x.outlook(300));
        due.is("outlook(299), 1 less", 0, x.outlook(299));
    }

    private static void outlookOfAState() {
        due.topic("outlook: the present state if it is not 0");
        WebTensionLine x = broken();
        due.is("broken", BROKEN, x.outlook(1));
        due.is("broken", BROKEN, x.outlook(300));
        due.is("broken, ticks 301", BAD, x.outlook(301));
        x.thread();
        due.is("threaded", 11, x.outlook(1));
        x = line(1);
        x.run(1);
        due.is("out of web", OUT, x.outlook(300));
        due.is("out of web, ticks 0", BAD, x.outlook(0));
    }

    private static void outlookInTheFirstTick() {
        due.topic("outlook: the state that it would have: broken at once, or both in a tick");
        WebTensionLine x = tightLine(100000000);
        x.setStrength(1000, 500);
        due.is("tension 1000", 0, x.outlook(1));
        x.setWeb(999999, 0);
        due.is("tension 1001", 11, x.outlook(1));
        x = tightLine(1);
        due.is("out of web", 12, x.outlook(1));
        x.setWeb(10000000, 0);
        x.setStrength(1000, 500);
        due.is("out of web, then broken", 11, x.outlook(1));
        x = line(1, 1);
        x.setSplicing(4999, 0);
        due.is("broken at the unwinder", 11, x.outlook(1));
        x.setSplicing(5000, 0);
        due.is("spliced, then out of web", 22, x.outlook(300));
    }
}

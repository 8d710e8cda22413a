import java.util.ArrayList;
import java.util.List;
import java.util.function.Supplier;

/**
 * "A call that reports an error changes nothing", and "the order of the @return line is the order
 * of the checks": every call with every wrong argument, on lines in every state. What a refused
 * call would change is looked for beside a twin on which the call is not made: in all that can be
 * read, in the settings, and in what both do later.
 */
public final class RefusedTest {
    private static final int PLACE = WebTensionLine.NO_SUCH_PLACE;
    private static final int BAD = WebTensionLine.BAD_VALUE;
    private static final int NOT_NOW = WebTensionLine.NOT_NOW;
    private static final int FULL = WebTensionLine.FULL;
    private static final int NONE = WebTensionLine.NONE;
    private static final long NO_VALUE = WebTensionLine.NO_VALUE;
    private static final Due due = new Due();

    private interface Call {
        long on(WebTensionLine x);
    }

    private record Refused(String name, long error, Call call) {
    }

    public static void main(String[] args) {
        List<Refused> always = refusedInEveryState();
        changeNothing("built", RefusedTest::built, always, refusedBeforeTheFirstTick());
        changeNothing("full", RefusedTest::full, always, refusedBeforeTheFirstTick(),
                List.of(new Refused("addSpan, six spans", FULL, x -> x.addSpan(100000)),
                        new Refused("loadRoll, four rolls", FULL, x -> x.loadRoll(100000))));
        changeNothing("moving", RefusedTest::moving, always, refusedAfterTheFirstTick(),
                List.of(new Refused("thread, running", NOT_NOW, x -> x.thread())));
        changeNothing("broken", RefusedTest::broken, always, refusedAfterTheFirstTick());
        changeNothing("out of web", RefusedTest::outOfWeb, always, refusedAfterTheFirstTick());
        noneIsNoError();
        due.end();
    }

    /** Three spans at time 0, each with another kind of controller or none. */
    private static WebTensionLine built() {
        WebTensionLine x = new WebTensionLine();
        x.reset(400000);
        x.addSpan(300000);
        x.addSpan(200000);
        x.setDancer(0, 10001, 2000, 10, 100, 10);
        x.setLoadCell(2, 1500, 2000);
        x.setWeb(1200000, 300);
        set(x);
        x.setDraw(1, 400);
        x.setDraw(2, -100);
        x.setDraw(3, 900);
        x.loadRoll(30000);
        x.loadRoll(200000);
        x.loadRoll(60000);
        return x;
    }

    private static void set(WebTensionLine x) {
        x.setStrength(200000, 400);
        x.setSpeed(3500, 700);
        x.setSplicing(2100, 8000);
        x.setRollLength(100003);
    }

    /** As built, with as many spans and rolls as there is room for. */
    private static WebTensionLine full() {
        WebTensionLine x = built();
        x.addSpan(100000);
        x.addSpan(150000);
        x.addSpan(250000);
        x.loadRoll(20000);
        x.loadRoll(30000);
        return x;
    }

    /** With a mark in the line, events, trims and tension. */
    private static WebTensionLine moving() {
        WebTensionLine x = built();
        x.run(25);
        due.is("a mark is in the line", 1, x.value(4));
        return x;
    }

    private static WebTensionLine broken() {
        WebTensionLine x = moving();
        x.setSplicing(100, 0);
        due.is("broken", 1, x.run(300));
        set(x);
        return x;
    }

    private static WebTensionLine outOfWeb() {
        WebTensionLine x = moving();
        due.is("out of web", 2, x.run(300));
        return x;
    }

    private static List<Refused> refusedInEveryState() {
        List<Refused> all = new ArrayList<>();
        all.add(new Refused("reset, length", BAD, x -> x.reset(99999)));
        all.add(new Refused("reset, length", BAD, x -> x.reset(10000001)));
        all.add(new Refused("addSpan, length", BAD, x -> x.addSpan(99999)));
        all.add(new Refused("addSpan, length", BAD, x -> x.addSpan(10000001)));
        refusedControllers(all);
        refusedSettings(all);
        refusedForecasts(all);
        return all;
    }

    private static void refusedControllers(List<Refused> all) {
        all.add(new Refused("setDancer, span", PLACE, x -> x.setDancer(-1, 8, 8, 8, 8, 8)));
        all.add(new Refused("setDancer, span", PLACE, x -> x.setDancer(6, 8, 8, 8, 8, 8)));
        all.add(new Refused("setDancer, span and all", PLACE,
                x -> x.setDancer(6, 1, -1, 0, 1001, 1001)));
        all.add(new Refused("setDancer, travel", BAD, x -> x.setDancer(0, 1, 8, 8, 8, 8)));
        all.add(new Refused("setDancer, travel", BAD, x -> x.setDancer(1, 100001, 8, 8, 8, 8)));
        all.add(new Refused("setDancer, force", BAD, x -> x.setDancer(1, 8, -1, 8, 8, 8)));
        all.add(new Refused("setDancer, force", BAD, x -> x.setDancer(2, 8, 1000001, 8, 8, 8)));
        all.add(new Refused("setDancer, mobility", BAD, x -> x.setDancer(0, 8, 8, 0, 8, 8)));
        all.add(new Refused("setDancer, mobility", BAD, x -> x.setDancer(1, 8, 8, 100001, 8, 8)));
        all.add(new Refused("setDancer, kp", BAD, x -> x.setDancer(0, 8, 8, 8, -1001, 8)));
        all.add(new Refused("setDancer, kp", BAD, x -> x.setDancer(1, 8, 8, 8, 1001, 8)));
        all.add(new Refused("setDancer, ki", BAD, x -> x.setDancer(0, 8, 8, 8, 8, -1001)));
        all.add(new Refused("setDancer, ki", BAD, x -> x.setDancer(2, 8, 8, 8, 8, 1001)));
        all.add(new Refused("setLoadCell, span", PLACE, x -> x.setLoadCell(-1, 8, 8)));
        all.add(new Refused("setLoadCell, span", PLACE, x -> x.setLoadCell(6, 8, 8)));
        all.add(new Refused("setLoadCell, span and all", PLACE,
                x -> x.setLoadCell(6, -1, 10001)));
        all.add(new Refused("setLoadCell, wanted", BAD, x -> x.setLoadCell(0, -1, 8)));
        all.add(new Refused("setLoadCell, wanted", BAD, x -> x.setLoadCell(2, 1000001, 8)));
        all.add(new Refused("setLoadCell, gain", BAD, x -> x.setLoadCell(1, 8, -10001)));
        all.add(new Refused("setLoadCell, gain", BAD, x -> x.setLoadCell(2, 8, 10001)));
    }

    private static void refusedSettings(List<Refused> all) {
        all.add(new Refused("setWeb, stiffness", BAD, x -> x.setWeb(999, 7)));
        all.add(new Refused("setWeb, stiffness", BAD, x -> x.setWeb(10000001, 7)));
        all.add(new Refused("setWeb, wound", BAD, x -> x.setWeb(7777, -1)));
        all.add(new Refused("setWeb, wound", BAD, x -> x.setWeb(7777, 100001)));
        all.add(new Refused("setStrength, strength", BAD, x -> x.setStrength(999, 7)));
        all.add(new Refused("setStrength, strength", BAD, x -> x.setStrength(10000001, 7)));
        all.add(new Refused("setStrength, splice", BAD, x -> x.setStrength(7777, 0)));
        all.add(new Refused("setStrength, splice", BAD, x -> x.setStrength(7777, 1001)));
        all.add(new Refused("setDraw, roller", PLACE, x -> x.setDraw(0, 8)));
        all.add(new Refused("setDraw, roller", PLACE, x -> x.setDraw(-1, 8)));
        all.add(new Refused("setDraw, roller", PLACE, x -> x.setDraw(7, 8)));
        all.add(new Refused("setDraw, roller and draw", PLACE, x -> x.setDraw(0, 20001)));
        all.add(new Refused("setDraw, draw", BAD, x -> x.setDraw(1, -20001)));
        all.add(new Refused("setDraw, draw", BAD, x -> x.setDraw(3, 20001)));
        all.add(new Refused("setSpeed, target", BAD, x -> x.setSpeed(-1, 7)));
        all.add(new Refused("setSpeed, target", BAD, x -> x.setSpeed(20001, 7)));
        all.add(new Refused("setSpeed, ramp", BAD, x -> x.setSpeed(777, 0)));
        all.add(new Refused("setSpeed, ramp", BAD, x -> x.setSpeed(777, 5001)));
        all.add(new Refused("setSplicing, speed", BAD, x -> x.setSplicing(-1, 7)));
        all.add(new Refused("setSplicing, speed", BAD, x -> x.setSplicing(20001, 7)));
        all.add(new Refused("setSplicing, trigger", BAD, x -> x.setSplicing(777, -1)));
        all.add(new Refused("setSplicing, trigger", BAD, x -> x.setSplicing(777, 100000001)));
        all.add(new Refused("loadRoll, length", BAD, x -> x.loadRoll(0)));
        all.add(new Refused("loadRoll, length", BAD, x -> x.loadRoll(1000000001)));
        all.add(new Refused("setRollLength, length", BAD, x -> x.setRollLength(99999)));
        all.add(new Refused("setRollLength, length", BAD, x -> x.setRollLength(1000000001)));
        all.add(new Refused("run, ticks", BAD, x -> x.run(0)));
        all.add(new Refused("run, ticks", BAD, x -> x.run(301)));
        all.add(new Refused("run, ticks", BAD, x -> x.run(Integer.MIN_VALUE)));
        all.add(new Refused("run, ticks", BAD, x -> x.run(Integer.MAX_VALUE)));
    }

    private static void refusedForecasts(List<Refused> all) {
        all.add(new Refused("steadyTension, span", PLACE, x -> x.steadyTension(6)));
        all.add(new Refused("bestDraw, span", PLACE, x -> x.bestDraw(-1, 5)));
        all.add(new Refused("bestDraw, span and wanted", PLACE, x -> x.bestDraw(6, -1)));
        all.add(new Refused("bestDraw, wanted", BAD, x -> x.bestDraw(0, -1)));
        all.add(new Refused("bestDraw, wanted", BAD, x -> x.bestDraw(0, 1000001)));
        all.add(new Refused("forecast, span", NO_VALUE, x -> x.forecast(6, 300)));
        all.add(new Refused("forecast, ticks", NO_VALUE, x -> x.forecast(0, 0)));
        all.add(new Refused("forecast, ticks", NO_VALUE, x -> x.forecast(0, 301)));
        all.add(new Refused("outlook, ticks", BAD, x -> x.outlook(0)));
        all.add(new Refused("outlook, ticks", BAD, x -> x.outlook(301)));
        all.add(new Refused("value, what", BAD, x -> x.value(8)));
        all.add(new Refused("measure, span", NO_VALUE, x -> x.measure(6, 0)));
        all.add(new Refused("measure, what", NO_VALUE, x -> x.measure(0, 8)));
        all.add(new Refused("roller, roller", NO_VALUE, x -> x.roller(7, 0)));
        all.add(new Refused("roller, what", NO_VALUE, x -> x.roller(0, 4)));
        all.add(new Refused("web, what", NO_VALUE, x -> x.web(3)));
        all.add(new Refused("markDistance, k", NO_VALUE, x -> x.markDistance(-1)));
        all.add(new Refused("event, k", BAD, x -> x.event(-1, 0)));
        all.add(new Refused("event, what", BAD, x -> x.event(0, 3)));
        all.add(new Refused("event, k and what", BAD, x -> x.event(1000, 3)));
    }

    private static List<Refused> refusedBeforeTheFirstTick() {
        return List.of(new Refused("thread, at first", NOT_NOW, x -> x.thread()));
    }

    private static List<Refused> refusedAfterTheFirstTick() {
        return List.of(
                new Refused("addSpan, too late", NOT_NOW, x -> x.addSpan(100000)),
                new Refused("setDancer, too late", NOT_NOW, x -> x.setDancer(0, 8, 8, 8, 8, 8)),
                new Refused("setDancer, too late", NOT_NOW, x -> x.setDancer(1, 8, 8, 8, 8, 8)),
                new Refused("setLoadCell, too late", NOT_NOW, x -> x.setLoadCell(0, 8, 8)),
                new Refused("setLoadCell, too late", NOT_NOW, x -> x.setLoadCell(2, 8, 8)),
                new Refused("setWeb, too late", NOT_NOW, x -> x.setWeb(7777, 7)),
                new Refused("setWeb, too late, as it is", NOT_NOW, x -> x.setWeb(1200000, 300)));
    }

    @SafeVarargs
    private static void changeNothing(String state, Supplier<WebTensionLine> maker,
            List<Refused>... lists) {
        String[] untouched = lifeOf(maker.get());
        for (List<Refused> list : lists) {
            for (Refused one : list) {
                due.topic(state + ", " + one.name());
                WebTensionLine x = maker.get();
                due.is("the answer", one.error(), one.call().on(x));
                String[] life = lifeOf(x);
                for (int part = 0; part < life.length; part++) {
                    due.holds("nothing changes, part " + part,
                            untouched[part].equals(life[part]));
                }
            }
        }
    }

    /** What can be read, whether the settings are as set, and what it does later on. */
    private static String[] lifeOf(WebTensionLine x) {
        String[] parts = new String[4];
        parts[0] = Readings.of(x);
        parts[1] = x.setStrength(200000, 400) + " " + x.setSpeed(3500, 700) + " "
                + x.setSplicing(2100, 8000) + " " + x.setRollLength(100003) + " "
                + x.setWeb(1200000, 300);
        due.holds("settings as set: " + parts[1], parts[1].startsWith("0 0 0 100003 "));
        parts[2] = x.run(10) + " " + Readings.of(x);
        x.thread();
        x.loadRoll(500000);
        parts[3] = x.run(60) + " " + Readings.of(x);
        return parts;
    }

    private static void noneIsNoError() {
        due.topic("NONE is returned only if no error applies");
        WebTensionLine x = new WebTensionLine();
        due.is("steadyTension, span 1, target 0", PLACE, x.steadyTension(1));
        due.is("bestDraw, span 1, target 0", PLACE, x.bestDraw(1, 5));
        due.is("bestDraw, wanted -1, target 0", BAD, x.bestDraw(0, -1));
        due.is("bestDraw, wanted 1000001, target 0", BAD, x.bestDraw(0, 1000001));
        due.is("event, no such event, what 3", BAD, x.event(0, 3));
        due.is("event, no such event, what -1", BAD, x.event(0, -1));
        due.is("steadyTension, target 0", NONE, x.steadyTension(0));
        due.is("bestDraw, target 0", NONE, x.bestDraw(0, 5));
        due.is("event, no such event", NONE, x.event(0, 0));
    }
}

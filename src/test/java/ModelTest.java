/**
 * Many runs of calls, the same ones each time, on the program and on PlainModel: every answer and
 * all that can be read at the end must be the same. Some arguments are out of range. A run with its
 * readings stays below the 512 calls that an object is promised for.
 */
public final class ModelTest {
    private static final int RUNS = 6000;
    private static final int MOST_STEPS = 80;
    private static final Due due = new Due();
    private static final int[] seen = new int[10];
    private static long seed;

    public static void main(String[] args) {
        for (int run = 0; run < RUNS; run++) {
            seed = run * 7919L + 1;
            due.topic("run " + run);
            oneRun();
        }
        whatTheRunsReach();
        due.end();
    }

    private static void oneRun() {
        WebTensionLine x = new WebTensionLine();
        PlainModel m = new PlainModel();
        build(x, m);
        for (int steps = pick(MOST_STEPS); steps > 0; steps--) {
            step(x, m, pick(20));
            if (pick(8) == 0) {
                forecasts(x, m);
            }
        }
        compare(x, m);
        count(m);
    }

    /** A number from 0 to below the bound. */
    private static int pick(int bound) {
        seed = seed * 6364136223846793005L + 1442695040888963407L;
        return (int) ((seed >>> 33) % bound);
    }

    /** A number in the range, now and then one of its ends, rarely one just or far outside. */
    private static int from(int least, int most) {
        int way = pick(40);
        if (way < 4) {
            return way % 2 == 0 ? least : most;
        }
        if (way == 4) {
            return pick(2) == 0 ? least - 1 : most + 1;
        }
        if (way == 5 && pick(4) == 0) {
            return pick(2) == 0 ? Integer.MIN_VALUE : Integer.MAX_VALUE;
        }
        return least + pick(most - least + 1);
    }

    /** A number in the range, mostly in its lowest part. */
    private static int low(int least, int most, int usual) {
        return pick(3) == 0 ? from(least, most) : from(least, Math.min(most, usual));
    }

    private static void build(WebTensionLine x, PlainModel m) {
        int first = low(100000, 10000000, 400000);
        due.is("reset", m.reset(first), x.reset(first));
        for (int i = pick(7); i > 0; i--) {
            int length = low(100000, 10000000, 300000);
            due.is("addSpan " + length, m.addSpan(length), x.addSpan(length));
        }
        for (int i = 0; i < 6; i++) {
            control(x, m);
        }
        for (int i = 0; i < 6; i++) {
            step(x, m, 4 + pick(6));
        }
        if (pick(2) == 0) {
            step(x, m, 2);
        }
    }

    private static void control(WebTensionLine x, PlainModel m) {
        int span = from(0, 5);
        if (pick(2) == 0) {
            int travel = low(2, 100000, 30000);
            int force = low(0, 1000000, 10000);
            int mobility = low(1, 100000, 50);
            int kp = from(-1000, 1000);
            int ki = from(-1000, 1000);
            due.is("setDancer " + span, m.setDancer(span, travel, force, mobility, kp, ki),
                    x.setDancer(span, travel, force, mobility, kp, ki));
        } else if (pick(2) == 0) {
            int wanted = low(0, 1000000, 5000);
            int gain = from(-10000, 10000);
            due.is("setLoadCell " + span, m.setLoadCell(span, wanted, gain),
                    x.setLoadCell(span, wanted, gain));
        }
    }

    private static void step(WebTensionLine x, PlainModel m, int kind) {
        switch (kind) {
            case 0 -> {
                int length = low(100000, 10000000, 400000);
                if (pick(6) == 0) {
                    due.is("reset " + length, m.reset(length), x.reset(length));
                } else {
                    due.is("addSpan " + length, m.addSpan(length), x.addSpan(length));
                }
            }
            case 1 -> control(x, m);
            case 2 -> {
                int k = low(1000, 10000000, 2000000);
                int w = low(0, 100000, 1000);
                due.is("setWeb " + k + " " + w, m.setWeb(k, w), x.setWeb(k, w));
            }
            case 3 -> {
                int strength = low(1000, 10000000, 30000);
                int splice = from(1, 1000);
                due.is("setStrength " + strength, m.setStrength(strength, splice),
                        x.setStrength(strength, splice));
            }
            case 4 -> draw(x, m);
            case 5 -> {
                int target = from(0, 20000);
                int ramp = low(1, 5000, 900);
                due.is("setSpeed " + target, m.setSpeed(target, ramp), x.setSpeed(target, ramp));
            }
            case 6 -> {
                int speed = from(0, 20000);
                int trigger = low(0, 100000000, 200000);
                due.is("setSplicing " + speed, m.setSplicing(speed, trigger),
                        x.setSplicing(speed, trigger));
            }
            case 7, 8, 9 -> {
                int length = low(1, 1000000000, pick(3) == 0 ? 5000 : 1000000);
                due.is("loadRoll " + length, m.loadRoll(length), x.loadRoll(length));
            }
            case 10 -> {
                int length = low(100000, 1000000000, 500000);
                due.is("setRollLength " + length, m.setRollLength(length),
                        x.setRollLength(length));
            }
            case 11, 12 -> {
                if (pick(4) != 0) {
                    due.is("thread", m.thread(), x.thread());
                }
            }
            default -> {
                int ticks = low(1, 300, 30);
                due.is("run " + ticks, m.run(ticks), x.run(ticks));
            }
        }
    }

    private static void draw(WebTensionLine x, PlainModel m) {
        int roller = from(1, 6);
        int draw = pick(3) == 0 ? from(-20000, 20000) : from(-1500, 1500);
        due.is("setDraw " + roller, m.setDraw(roller, draw), x.setDraw(roller, draw));
    }

    private static void compare(WebTensionLine x, PlainModel m) {
        for (int what = -1; what <= 8; what++) {
            due.is("value " + what, m.value(what), x.value(what));
        }
        for (int i = -1; i <= 7; i++) {
            for (int what = -1; what <= 8; what++) {
                due.is("measure " + i + " " + what, m.measure(i, what), x.measure(i, what));
            }
            for (int what = -1; what <= 4; what++) {
                due.is("roller " + i + " " + what, m.roller(i, what), x.roller(i, what));
            }
            due.is("steadyTension " + i, m.steadyTension(i), x.steadyTension(i));
        }
        for (int what = -1; what <= 3; what++) {
            due.is("web " + what, m.web(what), x.web(what));
        }
        for (int k = -1; k <= m.value(4); k++) {
            due.is("markDistance " + k, m.markDistance(k), x.markDistance(k));
        }
        for (int k = -1; k <= 30; k++) {
            for (int what = -1; what <= 3; what++) {
                due.is("event " + k + " " + what, m.event(k, what), x.event(k, what));
            }
        }
        due.is("breakAt", m.breakAt(), x.breakAt());
        due.is("slackSpans", m.slackSpans(), x.slackSpans());
        forecasts(x, m);
    }

    private static void forecasts(WebTensionLine x, PlainModel m) {
        int span = from(0, m.value(3) - 1);
        int ticks = low(1, 300, 40);
        int wanted = low(0, 1000000, 30000);
        due.is("forecast " + span + " " + ticks, m.forecast(span, ticks), x.forecast(span, ticks));
        due.is("outlook " + ticks, m.outlook(ticks), x.outlook(ticks));
        due.is("bestDraw " + span + " " + wanted, m.bestDraw(span, wanted),
                x.bestDraw(span, wanted));
    }

    private static void count(PlainModel m) {
        for (int k = 0; k < m.value(7); k++) {
            seen[m.event(k, 1)]++;
        }
        seen[6] += m.value(4) > 1 ? 1 : 0;
        seen[7] += m.breakAt() == -1 ? 1 : 0;
        seen[8] += m.value(7) == 30 ? 1 : 0;
        seen[9] += m.markDistance(0) != PlainModel.NO_VALUE && m.measure(0, 5) == 0 ? 1 : 0;
    }

    /** Runs that never splice or break would prove little. */
    private static void whatTheRunsReach() {
        due.topic("all runs");
        for (int i = 0; i < seen.length; i++) {
            due.holds("situation " + i + " is seen often: " + seen[i], seen[i] >= 100);
        }
    }
}

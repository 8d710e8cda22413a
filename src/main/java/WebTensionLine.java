/**
 * A simulation of a web line (paper or film). Lengths are in micrometres, tensions and forces in
 * millinewtons, time in ticks, speeds in micrometres per tick; every division rounds down.
 */
public final class WebTensionLine {
    public static final int NO_SUCH_PLACE = -1000001;
    public static final int BAD_VALUE = -1000002;
    public static final int NOT_NOW = -1000003;
    public static final int FULL = -1000004;
    public static final int NONE = -1000005;
    public static final long NO_VALUE = Long.MIN_VALUE;

    private static final int MOST_SPANS = 6;
    private static final int MOST_QUEUED = 4;
    private static final int MOST_EVENTS = 30;
    // Every mark takes a roll, every roll a call, and an object is promised for 512 calls.
    private static final int MOST_MARKS = 512;
    private static final int MOST_TICKS = 300;

    private static final int LEAST_SPAN_LENGTH = 100000;
    private static final int MOST_SPAN_LENGTH = 10000000;
    private static final int MOST_TRAVEL = 100000;
    private static final int MOST_FORCE = 1000000;
    private static final int MOST_MOBILITY = 100000;
    private static final int MOST_DANCER_GAIN = 1000;
    private static final int MOST_CELL_GAIN = 10000;
    private static final int MOST_WANTED = 1000000;
    private static final int LEAST_STIFFNESS = 1000;
    private static final int MOST_STIFFNESS = 10000000;
    private static final int MOST_WOUND = 100000;
    private static final int LEAST_STRENGTH = 1000;
    private static final int MOST_STRENGTH = 10000000;
    private static final int MOST_SPLICE_STRENGTH = 1000;
    private static final int MOST_DRAW = 20000;
    private static final int DRAW_STEP = 50;
    private static final int MOST_SPEED = 20000;
    private static final int MOST_RAMP = 5000;
    private static final int MOST_TRIGGER = 100000000;
    private static final int LEAST_ROLL_LENGTH = 100000;
    private static final int MOST_ROLL_LENGTH = 1000000000;

    private static final int MOST_TRIM = 2000;
    private static final int MOST_DANCER_STEP = 500;
    private static final int MOST_DANCER_SUM = 1000000;
    private static final int SLACK_TICKS = 20;
    private static final long THOUSAND = 1000;
    private static final long MILLION = 1000000;

    private static final int RUNNING = 0;
    private static final int BROKEN = 1;
    private static final int OUT_OF_WEB = 2;
    private static final int AT_UNWINDER = -1;

    private static final int SPLICE_MADE = 0;
    private static final int WEB_BROKE = 1;
    private static final int SLACK_BEGINS = 2;
    private static final int SLACK_ENDS = 3;
    private static final int WEB_ENDED = 4;
    private static final int ROLL_FINISHED = 5;

    private static final int NO_CONTROLLER = 0;
    private static final int DANCER = 1;
    private static final int LOAD_CELL = 2;

    private final Line line;
    // Forecasts run on this second line, so that they change nothing and make no new objects.
    private final Line trial;

    public WebTensionLine() {
        line = new Line();
        trial = new Line();
    }

    // ---- the line

    public int reset(int length) {
        if (!isWithin(length, LEAST_SPAN_LENGTH, MOST_SPAN_LENGTH)) {
            return BAD_VALUE;
        }
        int passed = line.time;
        line.begin(length);
        return passed;
    }

    public int addSpan(int length) {
        if (!isWithin(length, LEAST_SPAN_LENGTH, MOST_SPAN_LENGTH)) {
            return BAD_VALUE;
        }
        if (line.time != 0) {
            return NOT_NOW;
        }
        return line.append(length);
    }

    public int setDancer(int span, int travel, int force, int mobility, int kp, int ki) {
        if (!line.hasSpan(span)) {
            return NO_SUCH_PLACE;
        }
        if (!isWithin(travel, 2, MOST_TRAVEL) || !isWithin(force, 0, MOST_FORCE)
                || !isWithin(mobility, 1, MOST_MOBILITY)
                || !isWithin(kp, -MOST_DANCER_GAIN, MOST_DANCER_GAIN)
                || !isWithin(ki, -MOST_DANCER_GAIN, MOST_DANCER_GAIN)) {
            return BAD_VALUE;
        }
        if (line.time != 0) {
            return NOT_NOW;
        }
        line.spans[span].dancer.begin(travel, force, mobility, kp, ki);
        return line.spans[span].equip(DANCER);
    }

    public int setLoadCell(int span, int wanted, int gain) {
        if (!line.hasSpan(span)) {
            return NO_SUCH_PLACE;
        }
        if (!isWithin(wanted, 0, MOST_WANTED)
                || !isWithin(gain, -MOST_CELL_GAIN, MOST_CELL_GAIN)) {
            return BAD_VALUE;
        }
        if (line.time != 0) {
            return NOT_NOW;
        }
        line.spans[span].cell.begin(wanted, gain);
        return line.spans[span].equip(LOAD_CELL);
    }

    public int setWeb(int stiffness, int wound) {
        if (!isWithin(stiffness, LEAST_STIFFNESS, MOST_STIFFNESS)
                || !isWithin(wound, 0, MOST_WOUND)) {
            return BAD_VALUE;
        }
        if (line.time != 0) {
            return NOT_NOW;
        }
        return line.web.changeStiffness(stiffness, wound);
    }

    public int setStrength(int strength, int splice) {
        if (!isWithin(strength, LEAST_STRENGTH, MOST_STRENGTH)
                || !isWithin(splice, 1, MOST_SPLICE_STRENGTH)) {
            return BAD_VALUE;
        }
        return line.web.changeStrength(strength, splice);
    }

    // ---- operation

    public int setDraw(int roller, int draw) {
        if (roller == 0 || !line.hasRoller(roller)) {
            return NO_SUCH_PLACE;
        }
        if (!isWithin(draw, -MOST_DRAW, MOST_DRAW)) {
            return BAD_VALUE;
        }
        int previous = line.rollers[roller].draw;
        line.rollers[roller].draw = draw;
        return previous;
    }

    public int setSpeed(int target, int ramp) {
        if (!isWithin(target, 0, MOST_SPEED) || !isWithin(ramp, 1, MOST_RAMP)) {
            return BAD_VALUE;
        }
        return line.drive.changeTarget(target, ramp);
    }

    public int setSplicing(int speed, int trigger) {
        if (!isWithin(speed, 0, MOST_SPEED) || !isWithin(trigger, 0, MOST_TRIGGER)) {
            return BAD_VALUE;
        }
        return line.drive.changeSplicing(speed, trigger);
    }

    public int loadRoll(int length) {
        if (!isWithin(length, 1, MOST_ROLL_LENGTH)) {
            return BAD_VALUE;
        }
        return line.unwinder.put(length);
    }

    public int setRollLength(int length) {
        if (!isWithin(length, LEAST_ROLL_LENGTH, MOST_ROLL_LENGTH)) {
            return BAD_VALUE;
        }
        int previous = line.rewinder.rollLength;
        line.rewinder.rollLength = length;
        return previous;
    }

    public int run(int ticks) {
        if (!isWithin(ticks, 1, MOST_TICKS)) {
            return BAD_VALUE;
        }
        for (int i = 0; i < ticks; i++) {
            line.tick();
        }
        return line.state;
    }

    public int thread() {
        if (line.state == RUNNING) {
            return NOT_NOW;
        }
        line.threadAnew();
        return 1;
    }

    // ---- what is measured

    public int value(int what) {
        switch (what) {
            case 0:
                return line.time;
            case 1:
                return line.state;
            case 2:
                return line.drive.base;
            case 3:
                return line.spanCount;
            case 4:
                return line.marks.count;
            case 5:
                return line.rewinder.finished;
            case 6:
                return line.unwinder.queued;
            case 7:
                return line.log.count;
            default:
                return BAD_VALUE;
        }
    }

    public int breakAt() {
        return line.breakPlace;
    }

    public long measure(int span, int what) {
        if (!line.hasSpan(span)) {
            return NO_VALUE;
        }
        Span place = line.spans[span];
        switch (what) {
            case 0:
                return place.tensionAt(line.web.stiffness);
            case 1:
                return place.material;
            case 2:
                return place.length();
            case 3:
                return place.greatestTension;
            case 4:
                return place.slackCount;
            case 5:
                return line.marksIn(span);
            case 6:
                return place.controller == DANCER ? place.dancer.position : NO_VALUE;
            case 7:
                return place.controller == DANCER ? place.dancer.sum : NO_VALUE;
            default:
                return NO_VALUE;
        }
    }

    public long roller(int roller, int what) {
        if (!line.hasRoller(roller)) {
            return NO_VALUE;
        }
        switch (what) {
            case 0:
                return line.rollers[roller].passage;
            case 1:
                return line.speedOf(roller);
            case 2:
                return line.rollers[roller].draw;
            case 3:
                return line.rollers[roller].trim;
            default:
                return NO_VALUE;
        }
    }

    public long web(int what) {
        switch (what) {
            case 0:
                return line.unwinder.remaining;
            case 1:
                return line.unwinder.queuedLength();
            case 2:
                return line.rewinder.length;
            default:
                return NO_VALUE;
        }
    }

    public long markDistance(int k) {
        if (k < 0 || k >= line.marks.count) {
            return NO_VALUE;
        }
        return line.marks.places[k] - line.placeAtRoller(line.spanCount);
    }

    public int slackSpans() {
        int slack = 0;
        for (int i = 0; i < line.spanCount; i++) {
            if (line.spans[i].slackCount >= SLACK_TICKS) {
                slack |= 1 << i;
            }
        }
        return slack;
    }

    public int event(int k, int what) {
        if (k < 0 || !isWithin(what, 0, 2)) {
            return BAD_VALUE;
        }
        if (k >= line.log.count) {
            return NONE;
        }
        int slot = line.log.slotOf(k);
        if (what == 0) {
            return line.log.times[slot];
        }
        return what == 1 ? line.log.kinds[slot] : line.log.places[slot];
    }

    // ---- forecasts

    public int steadyTension(int span) {
        if (!line.hasSpan(span)) {
            return NO_SUCH_PLACE;
        }
        int target = line.drive.target;
        if (target == 0) {
            return NONE;
        }
        return (int) line.web.steadyTensionAt(line.nominalSpeed(span + 1, target), target);
    }

    public int bestDraw(int span, int wanted) {
        if (!line.hasSpan(span)) {
            return NO_SUCH_PLACE;
        }
        if (!isWithin(wanted, 0, MOST_WANTED)) {
            return BAD_VALUE;
        }
        int target = line.drive.target;
        if (target == 0) {
            return NONE;
        }
        long before = line.nominalSpeed(span, target);
        int best = -MOST_DRAW;
        long leastGap = line.web.steadyGap(wanted, drawn(before, best), target);
        for (int draw = -MOST_DRAW + DRAW_STEP; draw <= MOST_DRAW; draw += DRAW_STEP) {
            long gap = line.web.steadyGap(wanted, drawn(before, draw), target);
            if (gap < leastGap) {
                leastGap = gap;
                best = draw;
            }
        }
        return best;
    }

    public long forecast(int span, int ticks) {
        if (!line.hasSpan(span) || !isWithin(ticks, 1, MOST_TICKS)) {
            return NO_VALUE;
        }
        if (line.state != RUNNING) {
            return line.spans[span].tensionAt(line.web.stiffness);
        }
        trial.copyFrom(line);
        long greatest = 0;
        for (int i = 0; i < ticks; i++) {
            trial.tick();
            greatest = Math.max(greatest, trial.spans[span].tensionAt(trial.web.stiffness));
        }
        return greatest;
    }

    public int outlook(int ticks) {
        if (!isWithin(ticks, 1, MOST_TICKS)) {
            return BAD_VALUE;
        }
        if (line.state != RUNNING) {
            return line.state;
        }
        trial.copyFrom(line);
        for (int passed = 1; passed <= ticks; passed++) {
            trial.tick();
            if (trial.state != RUNNING) {
                return 10 * passed + trial.state;
            }
        }
        return 0;
    }

    // ---- numbers

    private static boolean isWithin(int number, int least, int most) {
        return number >= least && number <= most;
    }

    private static long limit(long number, long least, long most) {
        return Math.max(least, Math.min(most, number));
    }

    // For divisors that are no constants: all of them are above 0 as long as the document binds
    // the line, but the machine must not divide by 0 after its 512th call either.
    private static long quotient(long number, long divisor) {
        return divisor <= 0 ? 0 : Math.floorDiv(number, divisor);
    }

    private static long drawn(long speed, int draw) {
        return Math.floorDiv(speed * (MILLION + draw), MILLION);
    }

    // ---- the parts of a line

    /** The whole line as it stands at a time, and what a tick does to it. */
    private static final class Line {
        private final Web web = new Web();
        private final Drive drive = new Drive();
        private final Unwinder unwinder = new Unwinder();
        private final Rewinder rewinder = new Rewinder();
        private final Marks marks = new Marks();
        private final EventLog log = new EventLog();
        private final Span[] spans = new Span[MOST_SPANS];
        private final Roller[] rollers = new Roller[MOST_SPANS + 1];
        private final long[] amounts = new long[MOST_SPANS + 1];
        private int spanCount;
        private int time;
        private int state;
        private int breakPlace;

        private Line() {
            for (int i = 0; i < spans.length; i++) {
                spans[i] = new Span();
            }
            for (int i = 0; i < rollers.length; i++) {
                rollers[i] = new Roller();
            }
            begin(1000000);
        }

        private void begin(int length) {
            web.begin();
            drive.begin();
            unwinder.begin();
            rewinder.begin();
            marks.clearAll();
            log.begin();
            rollers[0].begin();
            spanCount = 0;
            append(length);
            time = 0;
            state = RUNNING;
            breakPlace = NONE;
        }

        /** Returns the number of the new span, or FULL. */
        private int append(int length) {
            if (spanCount >= MOST_SPANS) {
                return FULL;
            }
            spans[spanCount].begin(length);
            rollers[spanCount + 1].begin();
            spanCount++;
            return spanCount - 1;
        }

        // The events are left out: no tick looks at them.
        private void copyFrom(Line other) {
            web.copyFrom(other.web);
            drive.copyFrom(other.drive);
            unwinder.copyFrom(other.unwinder);
            rewinder.copyFrom(other.rewinder);
            marks.copyFrom(other.marks);
            spanCount = other.spanCount;
            time = other.time;
            state = other.state;
            breakPlace = other.breakPlace;
            rollers[0].copyFrom(other.rollers[0]);
            for (int i = 0; i < spanCount; i++) {
                spans[i].copyFrom(other.spans[i]);
                rollers[i + 1].copyFrom(other.rollers[i + 1]);
            }
        }

        private boolean hasSpan(int span) {
            return span >= 0 && span < spanCount;
        }

        private boolean hasRoller(int roller) {
            return roller >= 0 && roller <= spanCount;
        }

        private long nominalSpeed(int roller, int base) {
            long speed = base;
            for (int i = 1; i <= roller && i <= spanCount; i++) {
                speed = drawn(speed, rollers[i].draw);
            }
            return speed;
        }

        private long speedOf(int roller) {
            if (drive.base == 0 || !hasRoller(roller)) {
                return 0;
            }
            return Math.max(0, nominalSpeed(roller, drive.base) + rollers[roller].trim);
        }

        /** The place on the web, counted as roller 0's passage, that is just at a roller. */
        private long placeAtRoller(int roller) {
            long place = rollers[0].passage;
            for (int i = 0; i < roller && i < spanCount; i++) {
                place -= spans[i].material;
            }
            return place;
        }

        private int marksIn(int span) {
            return marks.countBetween(placeAtRoller(span + 1), placeAtRoller(span));
        }

        private void threadAnew() {
            state = RUNNING;
            drive.base = 0;
            marks.clearAll();
            unwinder.remaining = Math.max(0, unwinder.remaining);
            for (int i = 0; i < spanCount; i++) {
                rollers[i + 1].trim = 0;
                spans[i].threadAnew();
            }
        }

        private void tick() {
            if (state != RUNNING) {
                return;
            }
            time++;
            drive.approachWanted(unwinder.isSplicePending(drive.trigger));
            passWeb();
            unwind();
            wind();
            if (drive.base > 0) {
                control();
            }
            inspect();
        }

        private void passWeb() {
            amounts[0] = quotient(speedOf(0) * web.stiffness, (long) web.stiffness + web.wound);
            for (int i = 0; i < spanCount; i++) {
                amounts[i + 1] = quotient(speedOf(i + 1) * spans[i].material, spans[i].length());
            }
            rollers[0].passage += amounts[0];
            for (int i = 0; i < spanCount; i++) {
                rollers[i + 1].passage += amounts[i + 1];
                spans[i].material += amounts[i] - amounts[i + 1];
            }
        }

        private void unwind() {
            unwinder.remaining -= amounts[0];
            if (unwinder.remaining >= 0) {
                return;
            }
            if (unwinder.queued == 0) {
                state = OUT_OF_WEB;
                log.add(time, WEB_ENDED, 0);
            } else if (drive.base > drive.spliceSpeed) {
                breakWeb(AT_UNWINDER);
            } else {
                log.add(time, SPLICE_MADE, 0);
                marks.add(rollers[0].passage + unwinder.remaining);
                unwinder.takeNext();
            }
        }

        private void breakWeb(int place) {
            state = BROKEN;
            breakPlace = place;
            log.add(time, WEB_BROKE, place);
        }

        private void wind() {
            if (rewinder.takes(amounts[spanCount])) {
                log.add(time, ROLL_FINISHED, rewinder.finished);
            }
        }

        private void control() {
            for (int i = 0; i < spanCount; i++) {
                Span span = spans[i];
                Roller end = rollers[i + 1];
                long tension = span.tensionAt(web.stiffness);
                if (span.controller == DANCER) {
                    span.dancer.move(tension);
                    end.trim = span.dancer.trim();
                } else if (span.controller == LOAD_CELL) {
                    end.trim = span.cell.trimAfter(end.trim, tension);
                }
            }
        }

        private void inspect() {
            marks.dropUpTo(placeAtRoller(spanCount));
            for (int i = 0; i < spanCount; i++) {
                long tension = spans[i].tensionAt(web.stiffness);
                spans[i].greatestTension = Math.max(spans[i].greatestTension, tension);
                countSlack(i, tension);
                if (tension > web.strengthWith(marksIn(i)) && state != BROKEN) {
                    breakWeb(i);
                }
            }
        }

        private void countSlack(int span, long tension) {
            int before = spans[span].slackCount;
            spans[span].slackCount = tension == 0 ? before + 1 : 0;
            if (spans[span].slackCount == SLACK_TICKS) {
                log.add(time, SLACK_BEGINS, span);
            } else if (tension != 0 && before >= SLACK_TICKS) {
                log.add(time, SLACK_ENDS, span);
            }
        }
    }

    /** What the web is made of. */
    private static final class Web {
        private int stiffness;
        private int wound;
        private int strength;
        private int spliceStrength;

        private void begin() {
            stiffness = 1000000;
            wound = 0;
            strength = 1000000;
            spliceStrength = 500;
        }

        private void copyFrom(Web other) {
            stiffness = other.stiffness;
            wound = other.wound;
            strength = other.strength;
            spliceStrength = other.spliceStrength;
        }

        private int changeStiffness(int newStiffness, int newWound) {
            int changed = stiffness != newStiffness || wound != newWound ? 1 : 0;
            stiffness = newStiffness;
            wound = newWound;
            return changed;
        }

        private int changeStrength(int newStrength, int newSplice) {
            int changed = strength != newStrength || spliceStrength != newSplice ? 1 : 0;
            strength = newStrength;
            spliceStrength = newSplice;
            return changed;
        }

        private long strengthWith(int marks) {
            return marks == 0 ? strength : Math.floorDiv((long) strength * spliceStrength, THOUSAND);
        }

        private long steadyTensionAt(long speed, long firstSpeed) {
            long pull = ((long) stiffness + wound) * speed - stiffness * firstSpeed;
            return Math.max(0, quotient(pull, firstSpeed));
        }

        private long steadyGap(int wanted, long speed, long firstSpeed) {
            return Math.abs(steadyTensionAt(speed, firstSpeed) - wanted);
        }
    }

    /** The base speed, and what it is steered to. */
    private static final class Drive {
        private int base;
        private int target;
        private int ramp;
        private int spliceSpeed;
        private int trigger;

        private void begin() {
            base = 0;
            target = 0;
            ramp = 100;
            spliceSpeed = 1000;
            trigger = 0;
        }

        private void copyFrom(Drive other) {
            base = other.base;
            target = other.target;
            ramp = other.ramp;
            spliceSpeed = other.spliceSpeed;
            trigger = other.trigger;
        }

        private int changeTarget(int newTarget, int newRamp) {
            int changed = target != newTarget || ramp != newRamp ? 1 : 0;
            target = newTarget;
            ramp = newRamp;
            return changed;
        }

        private int changeSplicing(int newSpeed, int newTrigger) {
            int changed = spliceSpeed != newSpeed || trigger != newTrigger ? 1 : 0;
            spliceSpeed = newSpeed;
            trigger = newTrigger;
            return changed;
        }

        private void approachWanted(boolean splicePending) {
            int wanted = splicePending ? Math.min(target, spliceSpeed) : target;
            base += (int) limit(wanted - base, -ramp, ramp);
        }
    }

    /** The web between two rollers, with the controller of the roller at its end. */
    private static final class Span {
        private final Dancer dancer = new Dancer();
        private final LoadCell cell = new LoadCell();
        private int nominal;
        private int controller;
        private long material;
        private long greatestTension;
        private int slackCount;

        private void begin(int length) {
            nominal = length;
            controller = NO_CONTROLLER;
            material = length;
            greatestTension = 0;
            slackCount = 0;
        }

        private void copyFrom(Span other) {
            dancer.copyFrom(other.dancer);
            cell.copyFrom(other.cell);
            nominal = other.nominal;
            controller = other.controller;
            material = other.material;
            greatestTension = other.greatestTension;
            slackCount = other.slackCount;
        }

        /** Returns 1 if there was a controller before, otherwise 0. */
        private int equip(int newController) {
            int had = controller == NO_CONTROLLER ? 0 : 1;
            controller = newController;
            material = length();
            return had;
        }

        private void threadAnew() {
            dancer.centre();
            material = length();
            slackCount = 0;
        }

        private long length() {
            return controller == DANCER ? nominal + 2L * dancer.position : nominal;
        }

        private long tensionAt(int stiffness) {
            long length = length();
            return length > material ? quotient(stiffness * (length - material), material) : 0;
        }
    }

    /** A roll that the web lifts; its position tells how much web it stores. */
    private static final class Dancer {
        private int travel;
        private int force;
        private int mobility;
        private int kp;
        private int ki;
        private int position;
        private int sum;

        private void begin(int newTravel, int newForce, int newMobility, int newKp, int newKi) {
            travel = newTravel;
            force = newForce;
            mobility = newMobility;
            kp = newKp;
            ki = newKi;
            centre();
        }

        private void copyFrom(Dancer other) {
            travel = other.travel;
            force = other.force;
            mobility = other.mobility;
            kp = other.kp;
            ki = other.ki;
            position = other.position;
            sum = other.sum;
        }

        private void centre() {
            position = travel / 2;
            sum = 0;
        }

        private int error() {
            return position - travel / 2;
        }

        private void move(long tension) {
            long step = limit(quotient(force - 2 * tension, mobility),
                    -MOST_DANCER_STEP, MOST_DANCER_STEP);
            position = (int) limit(position + step, 0, travel);
            sum = (int) limit((long) sum + error(), -MOST_DANCER_SUM, MOST_DANCER_SUM);
        }

        private int trim() {
            long trim = Math.floorDiv((long) kp * error(), THOUSAND)
                    + Math.floorDiv((long) ki * sum, MILLION);
            return (int) limit(trim, -MOST_TRIM, MOST_TRIM);
        }
    }

    /** A gauge that trims its roller until the span has the wanted tension. */
    private static final class LoadCell {
        private int wanted;
        private int gain;

        private void begin(int newWanted, int newGain) {
            wanted = newWanted;
            gain = newGain;
        }

        private void copyFrom(LoadCell other) {
            wanted = other.wanted;
            gain = other.gain;
        }

        private int trimAfter(int trim, long tension) {
            long change = Math.floorDiv(gain * (wanted - tension), MILLION);
            return (int) limit(trim + change, -MOST_TRIM, MOST_TRIM);
        }
    }

    /** A driven roller; the first one keeps the draw 0 and the trim 0. */
    private static final class Roller {
        private long passage;
        private int draw;
        private int trim;

        private void begin() {
            passage = 0;
            draw = 0;
            trim = 0;
        }

        private void copyFrom(Roller other) {
            passage = other.passage;
            draw = other.draw;
            trim = other.trim;
        }
    }

    /** The present roll and the ones that wait behind it. */
    private static final class Unwinder {
        private final int[] queue = new int[MOST_QUEUED];
        private int queued;
        private long remaining;

        private void begin() {
            queued = 0;
            remaining = 0;
        }

        private void copyFrom(Unwinder other) {
            System.arraycopy(other.queue, 0, queue, 0, queue.length);
            queued = other.queued;
            remaining = other.remaining;
        }

        /** Returns how many rolls wait in the queue then, or FULL. */
        private int put(int length) {
            if (queued >= queue.length) {
                return FULL;
            }
            if (remaining == 0 && queued == 0) {
                remaining = length;
                return 0;
            }
            queue[queued] = length;
            queued++;
            return queued;
        }

        private void takeNext() {
            if (queued == 0) {
                return;
            }
            remaining += queue[0];
            queued--;
            System.arraycopy(queue, 1, queue, 0, queued);
        }

        private boolean isSplicePending(int trigger) {
            return remaining <= trigger && queued > 0;
        }

        private long queuedLength() {
            long length = 0;
            for (int i = 0; i < queued; i++) {
                length += queue[i];
            }
            return length;
        }
    }

    /** The roll that is being wound, and how many are finished. */
    private static final class Rewinder {
        private long length;
        private int rollLength;
        private int finished;

        private void begin() {
            length = 0;
            rollLength = MOST_ROLL_LENGTH;
            finished = 0;
        }

        private void copyFrom(Rewinder other) {
            length = other.length;
            rollLength = other.rollLength;
            finished = other.finished;
        }

        /** Returns whether a roll is finished by the amount. */
        private boolean takes(long amount) {
            length += amount;
            if (length < rollLength) {
                return false;
            }
            length -= rollLength;
            finished++;
            return true;
        }
    }

    /** The splices in the line, by what had passed roller 0 before them; the first made first. */
    private static final class Marks {
        private final long[] places = new long[MOST_MARKS];
        private int count;

        private void clearAll() {
            count = 0;
        }

        private void copyFrom(Marks other) {
            System.arraycopy(other.places, 0, places, 0, other.count);
            count = other.count;
        }

        private void add(long place) {
            if (count < places.length) {
                places[count] = place;
                count++;
            }
        }

        /** The places grow from mark to mark, so the ones to drop are the first ones. */
        private void dropUpTo(long place) {
            int passed = 0;
            while (passed < count && places[passed] <= place) {
                passed++;
            }
            count -= passed;
            System.arraycopy(places, passed, places, 0, count);
        }

        private int countBetween(long above, long upTo) {
            int found = 0;
            for (int i = 0; i < count; i++) {
                if (places[i] > above && places[i] <= upTo) {
                    found++;
                }
            }
            return found;
        }
    }

    /** The latest events, in rows that are used around again. */
    private static final class EventLog {
        private final int[] times = new int[MOST_EVENTS];
        private final int[] kinds = new int[MOST_EVENTS];
        private final int[] places = new int[MOST_EVENTS];
        private int oldest;
        private int count;

        private void begin() {
            oldest = 0;
            count = 0;
        }

        private int slotOf(int k) {
            return Math.floorMod(oldest + k, MOST_EVENTS);
        }

        private void add(int time, int kind, int place) {
            int slot = slotOf(count);
            times[slot] = time;
            kinds[slot] = kind;
            places[slot] = place;
            if (count < MOST_EVENTS) {
                count++;
            } else {
                oldest = slotOf(1);
            }
        }
    }
}

import java.util.ArrayList;
import java.util.List;

/**
 * The document once more, in its plainest form and held otherwise than in the program: rows instead
 * of parts, a mark with the passage of every roller at which it passes, and forecasts on a copy.
 */
final class PlainModel {
    static final int NO_SUCH_PLACE = -1000001;
    static final int BAD_VALUE = -1000002;
    static final int NOT_NOW = -1000003;
    static final int FULL = -1000004;
    static final int NONE = -1000005;
    static final long NO_VALUE = Long.MIN_VALUE;

    int n, time, state, lastBreak, base, target, ramp, spliceSpeed, trigger, rollLength, finished;
    long k, w, strength, spliceStrength, remaining, wound;
    long[] nominal = new long[6], material = new long[6], greatest = new long[6];
    int[] slack = new int[6], control = new int[6];
    long[][] gains = new long[6][5];
    long[] position = new long[6], sum = new long[6];
    long[] passage = new long[7], trim = new long[7];
    int[] draw = new int[7];
    List<Integer> queue = new ArrayList<>();
    List<long[]> marks = new ArrayList<>();
    List<int[]> events = new ArrayList<>();

    PlainModel() {
        start(1000000);
    }

    private void start(int length) {
        n = 1;
        time = state = base = target = trigger = finished = 0;
        ramp = 100;
        spliceSpeed = 1000;
        rollLength = 1000000000;
        lastBreak = NONE;
        k = strength = 1000000;
        w = remaining = wound = 0;
        spliceStrength = 500;
        passage = new long[7];
        trim = new long[7];
        draw = new int[7];
        slack = new int[6];
        control = new int[6];
        greatest = new long[6];
        queue.clear();
        marks.clear();
        events.clear();
        nominal[0] = material[0] = length;
    }

    private PlainModel copy() {
        PlainModel c = new PlainModel();
        c.n = n;
        c.time = time;
        c.state = state;
        c.lastBreak = lastBreak;
        c.base = base;
        c.target = target;
        c.ramp = ramp;
        c.spliceSpeed = spliceSpeed;
        c.trigger = trigger;
        c.rollLength = rollLength;
        c.finished = finished;
        c.k = k;
        c.w = w;
        c.strength = strength;
        c.spliceStrength = spliceStrength;
        c.remaining = remaining;
        c.wound = wound;
        c.nominal = nominal.clone();
        c.material = material.clone();
        c.greatest = greatest.clone();
        c.slack = slack.clone();
        c.control = control.clone();
        for (int i = 0; i < 6; i++) {
            c.gains[i] = gains[i].clone();
        }
        c.position = position.clone();
        c.sum = sum.clone();
        c.passage = passage.clone();
        c.trim = trim.clone();
        c.draw = draw.clone();
        c.queue = new ArrayList<>(queue);
        c.marks = new ArrayList<>(marks);
        c.events = new ArrayList<>(events);
        return c;
    }

    private static boolean out(long x, long least, long most) {
        return x < least || x > most;
    }

    private static long bound(long x, long most) {
        return x > most ? most : x < -most ? -most : x;
    }

    private static long div(long a, long b) {
        long q = a / b;
        return a % b != 0 && (a < 0) != (b < 0) ? q - 1 : q;
    }

    private long length(int i) {
        return nominal[i] + (control[i] == 1 ? 2 * position[i] : 0);
    }

    private long tension(int i) {
        return length(i) > material[i] ? div(k * (length(i) - material[i]), material[i]) : 0;
    }

    private long[] nominals(long first) {
        long[] v = new long[n + 1];
        v[0] = first;
        for (int i = 1; i <= n; i++) {
            v[i] = div(v[i - 1] * (1000000 + draw[i]), 1000000);
        }
        return v;
    }

    private long[] speeds() {
        long[] v = nominals(base);
        for (int i = 0; i <= n; i++) {
            v[i] = base == 0 || v[i] + trim[i] < 0 ? 0 : v[i] + trim[i];
        }
        return v;
    }

    private void note(int kind, int place) {
        events.add(new int[] {time, kind, place});
        if (events.size() > 30) {
            events.remove(0);
        }
    }

    private boolean inSpan(long[] mark, int i) {
        return passage[i] >= mark[i] && passage[i + 1] < mark[i + 1];
    }

    private int marksIn(int i) {
        int count = 0;
        for (long[] mark : marks) {
            count += inSpan(mark, i) ? 1 : 0;
        }
        return count;
    }

    private void tick() {
        if (state != 0) {
            return;
        }
        time++;
        long wanted = target;
        if (!queue.isEmpty() && remaining <= trigger && spliceSpeed < wanted) {
            wanted = spliceSpeed;
        }
        base += (int) bound(wanted - base, ramp);
        long[] v = speeds();
        long[] a = new long[n + 1];
        a[0] = div(v[0] * k, k + w);
        for (int i = 1; i <= n; i++) {
            a[i] = div(v[i] * material[i - 1], length(i - 1));
        }
        for (int i = 0; i <= n; i++) {
            passage[i] += a[i];
        }
        for (int i = 0; i < n; i++) {
            material[i] += a[i] - a[i + 1];
        }
        remaining -= a[0];
        if (remaining < 0) {
            rollEnds();
        }
        wound += a[n];
        if (wound >= rollLength) {
            wound -= rollLength;
            finished++;
            note(5, finished);
        }
        for (int i = 0; base > 0 && i < n; i++) {
            act(i);
        }
        look();
    }

    private void rollEnds() {
        if (queue.isEmpty()) {
            state = 2;
            note(4, 0);
        } else if (base > spliceSpeed) {
            state = 1;
            lastBreak = -1;
            note(1, -1);
        } else {
            note(0, 0);
            long[] mark = new long[n + 1];
            long ahead = remaining;
            for (int i = 0; i <= n; i++) {
                mark[i] = passage[i] + ahead;
                ahead += i < n ? material[i] : 0;
            }
            marks.add(mark);
            remaining += queue.remove(0);
        }
    }

    private void act(int i) {
        long t = tension(i);
        long[] g = gains[i];
        if (control[i] == 1) {
            long p = position[i] + bound(div(g[1] - 2 * t, g[2]), 500);
            position[i] = p < 0 ? 0 : p > g[0] ? g[0] : p;
            long e = position[i] - g[0] / 2;
            sum[i] = bound(sum[i] + e, 1000000);
            trim[i + 1] = bound(div(g[3] * e, 1000) + div(g[4] * sum[i], 1000000), 2000);
        } else if (control[i] == 2) {
            trim[i + 1] = bound(trim[i + 1] + div(g[1] * (g[0] - t), 1000000), 2000);
        }
    }

    private void look() {
        marks.removeIf(mark -> passage[n] >= mark[n]);
        for (int i = 0; i < n; i++) {
            long t = tension(i);
            greatest[i] = Math.max(greatest[i], t);
            int was = slack[i];
            slack[i] = t == 0 ? was + 1 : 0;
            if (slack[i] == 20) {
                note(2, i);
            }
            if (slack[i] == 0 && was >= 20) {
                note(3, i);
            }
            long holds = marksIn(i) > 0 ? div(strength * spliceStrength, 1000) : strength;
            if (t > holds && state != 1) {
                state = 1;
                lastBreak = i;
                note(1, i);
            }
        }
    }

    int reset(int length) {
        if (out(length, 100000, 10000000)) {
            return BAD_VALUE;
        }
        int was = time;
        start(length);
        return was;
    }

    int addSpan(int length) {
        if (out(length, 100000, 10000000)) {
            return BAD_VALUE;
        }
        if (time != 0) {
            return NOT_NOW;
        }
        if (n == 6) {
            return FULL;
        }
        nominal[n] = material[n] = length;
        return n++;
    }

    int setDancer(int span, int travel, int force, int mobility, int kp, int ki) {
        if (out(span, 0, n - 1)) {
            return NO_SUCH_PLACE;
        }
        if (out(travel, 2, 100000) || out(force, 0, 1000000) || out(mobility, 1, 100000)
                || out(kp, -1000, 1000) || out(ki, -1000, 1000)) {
            return BAD_VALUE;
        }
        if (time != 0) {
            return NOT_NOW;
        }
        int had = control[span] != 0 ? 1 : 0;
        control[span] = 1;
        gains[span] = new long[] {travel, force, mobility, kp, ki};
        position[span] = travel / 2;
        sum[span] = 0;
        material[span] = length(span);
        return had;
    }

    int setLoadCell(int span, int wanted, int gain) {
        if (out(span, 0, n - 1)) {
            return NO_SUCH_PLACE;
        }
        if (out(wanted, 0, 1000000) || out(gain, -10000, 10000)) {
            return BAD_VALUE;
        }
        if (time != 0) {
            return NOT_NOW;
        }
        int had = control[span] != 0 ? 1 : 0;
        control[span] = 2;
        gains[span] = new long[] {wanted, gain, 0, 0, 0};
        material[span] = nominal[span];
        return had;
    }

    int setWeb(int stiffness, int newWound) {
        if (out(stiffness, 1000, 10000000) || out(newWound, 0, 100000)) {
            return BAD_VALUE;
        }
        if (time != 0) {
            return NOT_NOW;
        }
        int changed = stiffness == k && newWound == w ? 0 : 1;
        k = stiffness;
        w = newWound;
        return changed;
    }

    int setStrength(int newStrength, int splice) {
        if (out(newStrength, 1000, 10000000) || out(splice, 1, 1000)) {
            return BAD_VALUE;
        }
        int changed = newStrength == strength && splice == spliceStrength ? 0 : 1;
        strength = newStrength;
        spliceStrength = splice;
        return changed;
    }

    int setDraw(int roller, int newDraw) {
        if (out(roller, 1, n)) {
            return NO_SUCH_PLACE;
        }
        if (out(newDraw, -20000, 20000)) {
            return BAD_VALUE;
        }
        int was = draw[roller];
        draw[roller] = newDraw;
        return was;
    }

    int setSpeed(int newTarget, int newRamp) {
        if (out(newTarget, 0, 20000) || out(newRamp, 1, 5000)) {
            return BAD_VALUE;
        }
        int changed = newTarget == target && newRamp == ramp ? 0 : 1;
        target = newTarget;
        ramp = newRamp;
        return changed;
    }

    int setSplicing(int speed, int newTrigger) {
        if (out(speed, 0, 20000) || out(newTrigger, 0, 100000000)) {
            return BAD_VALUE;
        }
        int changed = speed == spliceSpeed && newTrigger == trigger ? 0 : 1;
        spliceSpeed = speed;
        trigger = newTrigger;
        return changed;
    }

    int loadRoll(int length) {
        if (out(length, 1, 1000000000)) {
            return BAD_VALUE;
        }
        if (queue.size() == 4) {
            return FULL;
        }
        if (remaining == 0 && queue.isEmpty()) {
            remaining = length;
        } else {
            queue.add(length);
        }
        return queue.size();
    }

    int setRollLength(int length) {
        if (out(length, 100000, 1000000000)) {
            return BAD_VALUE;
        }
        int was = rollLength;
        rollLength = length;
        return was;
    }

    int run(int ticks) {
        if (out(ticks, 1, 300)) {
            return BAD_VALUE;
        }
        for (int i = 0; i < ticks; i++) {
            tick();
        }
        return state;
    }

    int thread() {
        if (state == 0) {
            return NOT_NOW;
        }
        state = base = 0;
        trim = new long[7];
        sum = new long[6];
        slack = new int[6];
        for (int i = 0; i < n; i++) {
            position[i] = gains[i][0] / 2;
            material[i] = length(i);
        }
        marks.clear();
        remaining = Math.max(remaining, 0);
        return 1;
    }

    int value(int what) {
        int[] values = {time, state, base, n, marks.size(), finished, queue.size(), events.size()};
        return out(what, 0, 7) ? BAD_VALUE : values[what];
    }

    int breakAt() {
        return lastBreak;
    }

    long measure(int span, int what) {
        if (out(span, 0, n - 1) || out(what, 0, 7) || what > 5 && control[span] != 1) {
            return NO_VALUE;
        }
        long[] values = {tension(span), material[span], length(span), greatest[span], slack[span],
            marksIn(span), position[span], sum[span]};
        return values[what];
    }

    long roller(int roller, int what) {
        if (out(roller, 0, n) || out(what, 0, 3)) {
            return NO_VALUE;
        }
        return new long[] {passage[roller], speeds()[roller], draw[roller], trim[roller]}[what];
    }

    long web(int what) {
        long queued = 0;
        for (int length : queue) {
            queued += length;
        }
        return out(what, 0, 2) ? NO_VALUE : new long[] {remaining, queued, wound}[what];
    }

    long markDistance(int j) {
        return out(j, 0, marks.size() - 1) ? NO_VALUE : marks.get(j)[n] - passage[n];
    }

    int slackSpans() {
        int set = 0;
        for (int i = 0; i < n; i++) {
            set += slack[i] >= 20 ? 1 << i : 0;
        }
        return set;
    }

    int event(int j, int what) {
        if (j < 0 || out(what, 0, 2)) {
            return BAD_VALUE;
        }
        return j >= events.size() ? NONE : events.get(j)[what];
    }

    private long steady(int span) {
        long v = nominals(target)[span + 1];
        return Math.max(0, div((k + w) * v - k * target, target));
    }

    int steadyTension(int span) {
        return out(span, 0, n - 1) ? NO_SUCH_PLACE : target == 0 ? NONE : (int) steady(span);
    }

    int bestDraw(int span, int wanted) {
        if (out(span, 0, n - 1)) {
            return NO_SUCH_PLACE;
        }
        if (out(wanted, 0, 1000000)) {
            return BAD_VALUE;
        }
        if (target == 0) {
            return NONE;
        }
        int kept = draw[span + 1];
        int best = 20000;
        long nearest = Long.MAX_VALUE;
        for (int d = 20000; d >= -20000; d -= 50) {
            draw[span + 1] = d;
            long off = Math.abs(steady(span) - wanted);
            if (off <= nearest) {
                nearest = off;
                best = d;
            }
        }
        draw[span + 1] = kept;
        return best;
    }

    long forecast(int span, int ticks) {
        if (out(span, 0, n - 1) || out(ticks, 1, 300)) {
            return NO_VALUE;
        }
        if (state != 0) {
            return tension(span);
        }
        PlainModel ahead = copy();
        long most = Long.MIN_VALUE;
        for (int i = 0; i < ticks; i++) {
            ahead.tick();
            most = Math.max(most, ahead.tension(span));
        }
        return most;
    }

    int outlook(int ticks) {
        if (out(ticks, 1, 300)) {
            return BAD_VALUE;
        }
        if (state != 0) {
            return state;
        }
        PlainModel ahead = copy();
        for (int i = 0; i < ticks; i++) {
            ahead.tick();
        }
        return ahead.state == 0 ? 0 : 10 * (ahead.time - time) + ahead.state;
    }
}

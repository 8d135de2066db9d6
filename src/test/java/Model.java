import java.util.ArrayDeque;
import java.util.ArrayList;
import java.util.Comparator;
import java.util.List;
import java.util.TreeSet;
import java.util.regex.Matcher;
import java.util.regex.Pattern;

/** The document a second time, with lists that are made anew, to be compared with EchoGauge. */
final class Model {
    static final class Thing {
        final int distance;
        final int strength;

        Thing(int distance, int strength) {
            this.distance = distance;
            this.strength = strength;
        }
    }

    static final class Echo {
        final int kind;
        final int distance;
        final int strength;
        boolean candidate;
        boolean dropped;
        boolean picked;

        Echo(int kind, int distance, int strength) {
            this.kind = kind;
            this.distance = distance;
            this.strength = strength;
        }
    }

    /** Everything that undo restores. */
    static final class All {
        int depth = 2000;
        int level = 500;
        int flow = 0;
        int foam = 0;
        List<Thing> things = new ArrayList<>();
        int[] stirrer = {0, 300, 600, 47, 20};
        int phase = 0;
        long s = 1;
        int[] settings = {0, 0, 20, 2, 0, 0, 5, 4, 10, 200, 1800, 20};
        TreeSet<Integer> masks = new TreeSet<>();
        List<Echo> echoes = new ArrayList<>();
        /** Of every shot since the gauge was begun, its candidates' distances. */
        List<List<Integer>> looked = new ArrayList<>();
        /** The latest one last. */
        List<Integer> history = new ArrayList<>();
        int shots = 0;
        int picked = 0;
        Integer told = null;
        int misses = 0;
        int alarm = 0;
        int drops = 0;
        int alarms = 0;

        All copy() {
            All c = new All();
            c.depth = depth;
            c.level = level;
            c.flow = flow;
            c.foam = foam;
            c.things = new ArrayList<>(things);
            c.stirrer = stirrer.clone();
            c.phase = phase;
            c.s = s;
            c.settings = settings.clone();
            c.masks = new TreeSet<>(masks);
            c.echoes = new ArrayList<>(echoes);
            c.looked = new ArrayList<>(looked);
            c.history = new ArrayList<>(history);
            c.shots = shots;
            c.picked = picked;
            c.told = told;
            c.misses = misses;
            c.alarm = alarm;
            c.drops = drops;
            c.alarms = alarms;
            return c;
        }

        private int draw(int below) {
            s = Math.floorMod(1103515245L * s + 12345L, 1L << 31);
            return (int) (s / 65536 % below);
        }

        private void send() {
            level += flow;
            if (level < 0) {
                level = 0;
            }
            if (level > depth) {
                level = depth;
            }
            phase += stirrer[3];
            while (phase >= 360) {
                phase -= 360;
            }
            int d = depth - level;
            List<Echo> sent = new ArrayList<>();
            for (Thing thing : things) {
                if (thing.distance < d) {
                    sent.add(new Echo(0, thing.distance, thing.strength));
                }
            }
            boolean blade = false;
            for (int k = 0; k < stirrer[0]; k++) {
                int distance = stirrer[1 + k % 2];
                boolean inBeam = angle(k) <= stirrer[4] || angle(k) >= 360 - stirrer[4];
                if (inBeam && distance < d) {
                    sent.add(new Echo(1, distance, 60));
                    blade = true;
                }
            }
            if (foam > 0) {
                sent.add(new Echo(2, Math.max(0, d - foam), Math.max(10, 70 - foam / 10)));
            }
            if (!blade) {
                sent.add(new Echo(3, d, Math.max(0, 80 - foam / 5)));
                sent.add(new Echo(4, 2 * d, Math.max(0, 80 - foam / 5) / 2));
            }
            echoes = new ArrayList<>();
            for (Echo echo : sent) {
                if (draw(100) < settings[0]) {
                    continue;
                }
                int distance = echo.distance;
                if (settings[1] > 0) {
                    distance = Math.max(0, distance + draw(2 * settings[1] + 1) - settings[1]);
                }
                echoes.add(new Echo(echo.kind, distance, echo.strength));
            }
            echoes.sort(Comparator.<Echo>comparingInt(e -> e.distance)
                .thenComparingInt(e -> -e.strength).thenComparingInt(e -> e.kind));
        }

        int angle(int blade) {
            return (phase + Math.floorDiv(360 * blade, stirrer[0])) % 360;
        }

        int need(int distance) {
            return Math.max(1, settings[2] - Math.floorDiv(distance * settings[3], 1000));
        }

        private boolean near(int back, int distance) {
            if (looked.size() < back) {
                return false;
            }
            return looked.get(looked.size() - back).stream().anyMatch(c -> Math.abs(c - distance) <= 15);
        }

        void shot() {
            send();
            List<Echo> left = new ArrayList<>();
            List<Integer> candidates = new ArrayList<>();
            for (Echo e : echoes) {
                e.candidate = e.distance <= depth && !masks.contains(e.distance / 20) && e.strength >= need(e.distance);
                if (!e.candidate) {
                    continue;
                }
                candidates.add(e.distance);
                boolean zone = e.distance >= stirrer[1] - 40 && e.distance <= stirrer[2] + 40;
                e.dropped = settings[4] == 1 && zone && !(near(1, e.distance) && near(2, e.distance));
                if (e.dropped) {
                    drops++;
                } else {
                    left.add(e);
                }
            }
            looked.add(candidates);
            Integer pick = null;
            if (!left.isEmpty()) {
                Comparator<Echo> better = Comparator.comparingInt(e -> 0);
                if (settings[5] == 1) {
                    better = Comparator.comparingInt(e -> -e.strength);
                } else if (settings[5] == 2 && told != null) {
                    int near = told;
                    better = Comparator.comparingInt(e -> Math.abs(e.distance - near));
                }
                left.sort(better);
                left.get(0).picked = true;
                pick = left.get(0).distance;
                picked++;
            }
            shots++;
            history.add(pick);
            cutHistory();
            tell();
            judge();
        }

        void cutHistory() {
            while (history.size() > settings[6]) {
                history.remove(0);
            }
        }

        List<Integer> picks() {
            List<Integer> picks = new ArrayList<>();
            for (Integer pick : history) {
                if (pick != null) {
                    picks.add(pick);
                }
            }
            picks.sort(null);
            return picks;
        }

        Integer median() {
            List<Integer> picks = picks();
            return 2 * picks.size() >= settings[6] ? picks.get((picks.size() - 1) / 2) : null;
        }

        private void tell() {
            Integer m = median();
            if (m == null) {
                misses++;
                if (misses == settings[8]) {
                    told = null;
                    history.replaceAll(pick -> null);
                }
                return;
            }
            misses = 0;
            if (told == null) {
                told = m;
            } else {
                int next = told + (m - told) / settings[7];
                told = next == told ? m : Integer.valueOf(next);
            }
        }

        private void judge() {
            int before = alarm;
            if (told == null) {
                alarm = 0;
                return;
            }
            int toldLevel = depth - told;
            if (toldLevel <= settings[9]) {
                alarm = 1;
            } else if (toldLevel >= settings[10]) {
                alarm = 2;
            } else if (alarm == 1 && toldLevel > settings[9] + settings[11]) {
                alarm = 0;
            } else if (alarm == 2 && toldLevel < settings[10] - settings[11]) {
                alarm = 0;
            }
            if (alarm != before && alarm > 0) {
                alarms++;
            }
        }
    }

    private All now = new All();
    private final ArrayDeque<All> stack = new ArrayDeque<>();
    private String text = "";
    private boolean saving = true;

    private void save() {
        if (!saving) {
            return;
        }
        stack.addLast(now.copy());
        if (stack.size() > 4) {
            stack.removeFirst();
        }
    }

    private static void range(int value, int least, int most) {
        if (value < least || value > most) {
            throw new IllegalArgumentException();
        }
    }

    private static void index(int value, int size) {
        if (value < 0 || value >= size) {
            throw new IndexOutOfBoundsException();
        }
    }

    private static int orNone(Integer value) {
        return value == null ? -1 : value;
    }

    int begin(int depth) {
        range(depth, 500, 10000);
        save();
        int shots = now.shots;
        long s = now.s;
        now = new All();
        now.depth = depth;
        now.s = s;
        return shots;
    }

    int setLevel(int level) {
        range(level, 0, now.depth);
        save();
        int before = now.level;
        now.level = level;
        return before;
    }

    int setFlow(int flow) {
        range(flow, -200, 200);
        save();
        int before = now.flow;
        now.flow = flow;
        return before;
    }

    int setFoam(int foam) {
        range(foam, 0, 500);
        save();
        int before = now.foam;
        now.foam = foam;
        return before;
    }

    int addThing(int distance, int strength) {
        range(distance, 0, 10000);
        range(strength, 1, 100);
        if (now.things.size() == 6) {
            throw new IllegalStateException();
        }
        save();
        now.things.add(new Thing(distance, strength));
        return now.things.size() - 1;
    }

    int removeThing(int thing) {
        index(thing, now.things.size());
        save();
        now.things.remove(thing);
        return now.things.size();
    }

    int setStirrer(int blades, int upper, int lower, int speed, int beam) {
        range(blades, 0, 6);
        range(upper, 0, 10000);
        range(lower, upper + 1, 10000);
        range(speed, 0, 359);
        range(beam, 0, 90);
        save();
        int before = now.stirrer[0];
        now.stirrer = new int[] {blades, upper, lower, speed, beam};
        return before;
    }

    int set(int what, int value) {
        range(what, 0, 11);
        int[][] ranges = {{0, 100}, {0, 20}, {1, 100}, {0, 20}, {0, 1}, {0, 2}, {1, 9}, {1, 20}, {1, 99},
            {0, 10000}, {0, 10000}, {0, 500}};
        range(value, ranges[what][0], ranges[what][1]);
        if (what == 9) {
            range(value, 0, now.settings[10]);
        }
        if (what == 10) {
            range(value, now.settings[9], 10000);
        }
        save();
        int before = now.settings[what];
        now.settings[what] = value;
        now.cutHistory();
        return before;
    }

    int setS(int value) {
        range(value, 0, Integer.MAX_VALUE);
        save();
        int before = (int) now.s;
        now.s = value;
        return before;
    }

    int mask(int distance, boolean masked) {
        range(distance, 0, 10000);
        save();
        int before = now.masks.contains(distance / 20) ? 1 : 0;
        if (masked) {
            now.masks.add(distance / 20);
        } else {
            now.masks.remove(distance / 20);
        }
        return before;
    }

    int learn(int shots) {
        range(shots, 1, 50);
        save();
        for (int i = 0; i < shots; i++) {
            now.send();
            for (Echo e : now.echoes) {
                if (e.kind <= 1 && e.distance <= now.depth) {
                    now.masks.add(e.distance / 20);
                }
            }
        }
        return now.masks.size();
    }

    int forget() {
        save();
        int before = now.masks.size();
        now.masks.clear();
        return before;
    }

    int shoot(int shots) {
        range(shots, 1, 500);
        save();
        int before = now.picked;
        for (int i = 0; i < shots; i++) {
            now.shot();
        }
        return now.picked - before;
    }

    int echo(int echo, int what) {
        range(echo, 0, Integer.MAX_VALUE);
        range(what, 0, 5);
        if (echo >= now.echoes.size()) {
            return -1;
        }
        Echo e = now.echoes.get(echo);
        return new int[] {e.kind, e.distance, e.strength, e.candidate ? 1 : 0, e.dropped ? 1 : 0,
            e.picked ? 1 : 0}[what];
    }

    int pick(int back) {
        range(back, 0, Integer.MAX_VALUE);
        return back < now.history.size() ? orNone(now.history.get(now.history.size() - 1 - back)) : -1;
    }

    int isMasked(int distance) {
        range(distance, 0, 10000);
        return now.masks.contains(distance / 20) ? 1 : 0;
    }

    int need(int distance) {
        range(distance, 0, 10000);
        return now.need(distance);
    }

    int thing(int thing, int what) {
        index(thing, now.things.size());
        range(what, 0, 1);
        return what == 0 ? now.things.get(thing).distance : now.things.get(thing).strength;
    }

    int angle(int blade) {
        index(blade, now.stirrer[0]);
        return now.angle(blade);
    }

    int tank(int what) {
        range(what, 0, 11);
        return new int[] {now.depth, now.level, now.flow, now.foam, now.things.size(), now.stirrer[0],
            now.stirrer[1], now.stirrer[2], now.phase, now.stirrer[3], now.stirrer[4], (int) now.s}[what];
    }

    int setting(int what) {
        range(what, 0, 11);
        return now.settings[what];
    }

    int gauge(int what) {
        range(what, 0, 12);
        return new int[] {now.shots, now.picked, orNone(now.told), now.told == null ? -1 : now.depth - now.told,
            now.misses, now.alarm, now.masks.size(), now.echoes.size(), now.history.size(), now.picks().size(),
            orNone(now.median()), now.drops, now.alarms}[what];
    }

    double meanPick() {
        return now.picks().stream().mapToInt(p -> p).average().orElse(-1.0);
    }

    int toldAfter(int most) {
        range(most, 0, 500);
        All trial = now.copy();
        for (int n = 0; n <= most; n++) {
            if (trial.told != null) {
                return n;
            }
            trial.shot();
        }
        return -1;
    }

    int worstError(int shots) {
        range(shots, 1, 200);
        return worst(shots, now.settings[5]);
    }

    private int worst(int shots, int mode) {
        All trial = now.copy();
        trial.settings[5] = mode;
        int worst = 0;
        for (int i = 0; i < shots; i++) {
            trial.shot();
            if (trial.told != null) {
                worst = Math.max(worst, Math.abs(trial.level - (trial.depth - trial.told)));
            }
        }
        return worst;
    }

    int bestMode(int shots) {
        range(shots, 1, 200);
        int zero = worst(shots, 0);
        int one = worst(shots, 1);
        int two = worst(shots, 2);
        return zero <= one && zero <= two ? 0 : one <= two ? 1 : 2;
    }

    int type(int value) {
        range(value, 0, 127);
        if (text.length() == 150) {
            throw new IllegalStateException();
        }
        text += (char) value;
        return text.length();
    }

    int clearCommands() {
        int length = text.length();
        text = "";
        return length;
    }

    private static final String WORDS = "tank|level|flow|foam|thing|blades|set|learn|shoot";
    private static final String NUMBER = " +[0-9]{1,5}";
    private static final String COMMAND = "(?:(?:tank|level|flow|foam|learn|shoot)" + NUMBER
        + "|(?:thing|set)" + NUMBER + NUMBER + "|blades" + NUMBER + NUMBER + NUMBER + NUMBER + NUMBER + ") *;";
    private static final Pattern WHOLE = Pattern.compile("(?: *" + COMMAND + ")* *", Pattern.DOTALL);

    /** By its words: a text can go on where some text that begins so has no fault, words taken as whole. */
    private int fault() {
        if (WHOLE.matcher(text).matches()) {
            return -1;
        }
        Matcher words = Pattern.compile("[a-z]+").matcher(text);
        for (int at = 0; at < text.length(); at++) {
            char c = text.charAt(at);
            boolean letter = c >= 'a' && c <= 'z';
            if (!letter && !canStand(text.substring(0, at + 1))) {
                return at;
            }
            if (letter) {
                words.find(at);
                boolean begins = WHOLE.matcher(text.substring(0, at)).matches();
                if (!begins || !words.group().matches(WORDS)) {
                    return at;
                }
                at = words.end() - 1;
            }
        }
        return text.length();
    }

    private static boolean canStand(String start) {
        if (WHOLE.matcher(start).matches()) {
            return true;
        }
        String[] ends = {" 1", "1", ""};
        for (String end : ends) {
            String longer = start + end;
            for (int numbers = 0; numbers <= 5; numbers++) {
                if (WHOLE.matcher(longer + ";").matches()) {
                    return true;
                }
                longer += " 1";
            }
        }
        return false;
    }

    int runCommands() {
        int fault = fault();
        if (fault >= 0) {
            return -10 - fault;
        }
        save();
        saving = false;
        int done = 0;
        try {
            for (String command : text.trim().split(" *; *")) {
                if (!command.isEmpty()) {
                    carryOut(command.split(" +"));
                    done++;
                }
            }
        } catch (IllegalArgumentException | IllegalStateException e) {
            // The document: it is not thrown, and those before it stay done.
        }
        saving = true;
        return done;
    }

    private void carryOut(String[] parts) {
        int[] n = new int[5];
        for (int i = 1; i < parts.length; i++) {
            n[i - 1] = Integer.parseInt(parts[i]);
        }
        switch (parts[0]) {
            case "tank": begin(n[0]); break;
            case "level": setLevel(n[0]); break;
            case "flow": setFlow(n[0]); break;
            case "foam": setFoam(n[0]); break;
            case "thing": addThing(n[0], n[1]); break;
            case "blades": setStirrer(n[0], n[1], n[2], n[3], n[4]); break;
            case "set": set(n[0], n[1]); break;
            case "learn": learn(n[0]); break;
            default: shoot(n[0]); break;
        }
    }

    int undo() {
        if (stack.isEmpty()) {
            throw new IllegalStateException();
        }
        now = stack.removeLast();
        return stack.size();
    }

    long digest() {
        List<Integer> row = new ArrayList<>(List.of(stack.size(), text.length()));
        for (int i = 0; i < 12; i++) {
            row.add(tank(i));
        }
        for (int value : now.settings) {
            row.add(value);
        }
        for (int i = 0; i < 13; i++) {
            row.add(gauge(i));
        }
        for (Thing thing : now.things) {
            row.add(thing.distance);
            row.add(thing.strength);
        }
        for (int i = 0; i < now.stirrer[0]; i++) {
            row.add(angle(i));
        }
        for (int i = 0; i < now.echoes.size(); i++) {
            for (int what = 0; what < 6; what++) {
                row.add(echo(i, what));
            }
        }
        for (int i = 0; i < now.settings[6]; i++) {
            row.add(pick(i));
        }
        for (int bin = 0; bin <= 500; bin++) {
            row.add(now.masks.contains(bin) ? 1 : 0);
        }
        long h = 18907;
        for (int value : row) {
            h = 31 * h + value;
        }
        return h;
    }
}

import java.util.LinkedHashMap;
import java.util.Map;
import java.util.TreeSet;

/** What a call must leave alone: all values but its own, and what later shots look back at. */
public final class AloneEdgeTest {
    private static final Edges E = new Edges();

    private static final String NEXT_SHOT = "(a smaller N drops the oldest shots of the history; all else is looked at "
        + "with the next shot)";
    private static final String NOT_LOOKED_AT = "takes some shots (with flow, phase and chance; they are not looked "
        + "at, and do not count for the history)";
    private static final String LOOKED_AT_THEN = "unless each of the latest two shots before this one (of shoot() "
        + "alone, since the gauge was begun; none counts as without candidates) had a candidate, ahead of dropping "
        + "and as it was looked at then, whose distance differs from its by at most 15.";

    public static void main(String[] args) {
        everyPlaceIsFilled();
        tankCallsChangeTheirOwnAlone();
        settingsChangeTheirOwnAlone();
        placesDropShotsAlone();
        masksChangeTheirOwnAlone();
        settingsAreLookedAtWithTheNextShot();
        patienceIsLookedAtWithTheNextShot();
        learnIsNotLookedAt();
        learnKeepsWhatWasMasked();
        guardLooksBackThroughEveryCall();
        guardForgetsWithBeginAlone();
        nearestIsByTheToldDistance();
        toldAfterGoesOnWithTheMisses();
        manyShotsAreAsManySingleOnes();
        E.end();
    }

    // ---- a gauge with something in every place

    /** Told, but missing; with an alarm, drops, masks and a latest shot whose echoes bear all marks. */
    private static EchoGauge lived() {
        EchoGauge g = new EchoGauge();
        g.addThing(400, 50);
        g.addThing(900, 45);
        g.setFoam(20);
        g.setStirrer(2, 300, 600, 47, 20);
        g.set(10, 1500);
        g.mask(900, true);
        g.mask(5000, true);
        g.shoot(5);
        g.set(0, 100);
        g.shoot(4);
        g.set(0, 0);
        g.set(4, 1);
        g.shoot(1);
        return g;
    }

    private static void everyPlaceIsFilled() {
        E.sentence("11 candidates dropped by the guard so far, 12 alarms that began so far");
        EchoGauge g = lived();
        int[] first = {0, 0, -1, -1, 0, 0, 0, 0, 0, 0, -1, 0, 0};
        for (int what = 0; what < first.length; what++) {
            if (what != 10) {
                E.check.differs("gauge(" + what + ")", g.gauge(what), first[what]);
            }
        }
        for (int mark = 3; mark < 6; mark++) {
            int bearing = 0;
            for (int i = 0; i < g.gauge(7); i++) {
                bearing += g.echo(i, mark);
            }
            E.check.differs("echoes with echo(.., " + mark + ")", bearing, 0);
        }
    }

    private static Map<String, Long> values(EchoGauge g) {
        Map<String, Long> row = new LinkedHashMap<>();
        for (int what = 0; what < 12; what++) {
            row.put("tank(" + what + ")", (long) g.tank(what));
            row.put("setting(" + what + ")", (long) g.setting(what));
        }
        for (int what = 0; what < 13; what++) {
            row.put("gauge(" + what + ")", (long) g.gauge(what));
        }
        for (int i = 0; i < g.tank(4); i++) {
            row.put("thing(" + i + ", 0)", (long) g.thing(i, 0));
            row.put("thing(" + i + ", 1)", (long) g.thing(i, 1));
        }
        for (int i = 0; i < g.tank(5); i++) {
            row.put("angle(" + i + ")", (long) g.angle(i));
        }
        for (int i = 0; i < g.gauge(7); i++) {
            for (int what = 0; what < 6; what++) {
                row.put("echo(" + i + ", " + what + ")", (long) g.echo(i, what));
            }
        }
        for (int back = 0; back < 9; back++) {
            row.put("pick(" + back + ")", (long) g.pick(back));
        }
        for (int bin = 0; bin <= 500; bin++) {
            row.put("bin " + bin, g.isMasked(20 * bin) ? 1L : 0L);
        }
        return row;
    }

    /** The names of all values that the call changes, in the order of letters. */
    private static String changed(Edges.Call call) {
        EchoGauge g = lived();
        Map<String, Long> before = values(g);
        call.on(g);
        Map<String, Long> after = values(g);
        TreeSet<String> names = new TreeSet<>(before.keySet());
        names.addAll(after.keySet());
        names.removeIf(name -> before.containsKey(name) && before.get(name).equals(after.get(name)));
        return String.join(" ", names);
    }

    private static void changes(String name, String want, Edges.Call call) {
        String got = changed(call);
        E.due(name + " changes " + want + ", not " + got, got.equals(want), true);
    }

    // ---- promises 3 to 8, 10

    private static void tankCallsChangeTheirOwnAlone() {
        E.sentence("Nothing is promised beyond the answers and state changes described above,");
        changes("setLevel", "tank(1)", g -> g.setLevel(1950));
        changes("setFlow", "tank(2)", g -> g.setFlow(30));
        changes("setFoam", "tank(3)", g -> g.setFoam(300));
        changes("addThing", "tank(4) thing(2, 0) thing(2, 1)", g -> g.addThing(410, 90));
        changes("removeThing", "tank(4) thing(1, 0) thing(1, 1)", g -> g.removeThing(1));
        changes("removeThing", "tank(4) thing(0, 0) thing(0, 1) thing(1, 0) thing(1, 1)", g -> g.removeThing(0));
        changes("setStirrer", "angle(0) angle(1) tank(5)", g -> g.setStirrer(0, 300, 600, 47, 20));
        changes("setStirrer", "tank(10) tank(6) tank(7) tank(9)", g -> g.setStirrer(2, 1, 2, 3, 4));
        changes("setS", "tank(11)", g -> g.setS(77));
        changes("as it was", "", g -> g.setLevel(g.tank(1)));
    }

    // ---- promise 9

    private static void settingsChangeTheirOwnAlone() {
        E.sentence(NEXT_SHOT);
        int[] values = {100, 20, 100, 20, 0, 2, 5, 1, 1, 0, 10000, 500};
        int[] others = {1, 1, 1, 0, 0, 1, 5, 20, 99, 1500, 1700, 0};
        for (int what = 0; what < 12; what++) {
            int[] both = {values[what], others[what]};
            for (int value : both) {
                int setting = what;
                String want = lived().setting(what) == value ? "" : "setting(" + what + ")";
                changes("set(" + what + ", " + value + ")", want, g -> g.set(setting, value));
            }
        }
    }

    private static void placesDropShotsAlone() {
        E.sentence(NEXT_SHOT);
        EchoGauge g = lived();
        E.due("misses", g.gauge(4) > 0, true);
        E.due("shots in the history", g.gauge(8), 5);
        E.due("picks in the history", g.gauge(9), 1);
        changes("set(6, 9)", "setting(6)", one -> one.set(6, 9));
        changes("set(6, 2)", "gauge(10) gauge(8) setting(6)", one -> one.set(6, 2));
        g.set(6, 2);
        E.due("the median is there", g.gauge(10), g.pick(0));
        E.due("but the misses stay", g.gauge(4), lived().gauge(4));
        E.due("and what is told", g.gauge(2), lived().gauge(2));
    }

    // ---- promises 11, 13

    private static void masksChangeTheirOwnAlone() {
        E.sentence("Masks a bin, or unmasks it. Undoable.");
        changes("mask", "bin 75 gauge(6)", g -> g.mask(1500, true));
        changes("unmask", "bin 45 gauge(6)", g -> g.mask(900, false));
        changes("mask again", "", g -> g.mask(900, true));
        E.sentence("Unmasks all bins. Undoable.");
        changes("forget", "bin 250 bin 45 gauge(6)", EchoGauge::forget);
    }

    // ---- history and level

    private static void settingsAreLookedAtWithTheNextShot() {
        E.sentence("Behind each shot: the alarm becomes 1 (low) if a level is told that is at most the low limit;");
        EchoGauge g = Edges.direct();
        Edges.shootAt(g, 1000);
        g.set(9, 1000);
        E.due("alarm ahead of a shot", g.gauge(5), 0);
        g.shoot(1);
        E.due("alarm behind it", g.gauge(5), 1);
        g.set(9, 200);
        E.due("low alarm ahead of a shot", g.gauge(5), 1);
        g.set(10, 1000);
        E.due("low alarm ahead of a shot", g.gauge(5), 1);
        g.shoot(1);
        E.due("high alarm behind it", g.gauge(5), 2);
        g.set(10, 1800);
        E.due("high alarm ahead of a shot", g.gauge(5), 2);
        E.due("alarms", g.gauge(12), 2);
        g.shoot(1);
        E.due("no alarm behind it", g.gauge(5), 0);
    }

    private static void patienceIsLookedAtWithTheNextShot() {
        E.sentence("if they are equal to the patience (1 to 99, 10 at first) then, no distance is told any more,");
        for (int patience = 1; patience <= 4; patience++) {
            EchoGauge g = new EchoGauge();
            g.shoot(5);
            g.set(0, 100);
            g.shoot(4);
            E.due("misses", g.gauge(4), 2);
            g.set(8, patience);
            E.due("told distance ahead of a shot", g.gauge(2), 1500);
            E.due("misses", g.gauge(4), 2);
            g.shoot(1);
            E.due("told distance with patience " + patience, g.gauge(2), patience == 3 ? -1 : 1500);
            E.due("misses", g.gauge(4), 3);
        }
    }

    // ---- promise 12

    private static void learnIsNotLookedAt() {
        E.sentence(NOT_LOOKED_AT);
        EchoGauge g = Edges.direct();
        Edges.shootAt(g, 1000);
        g.set(9, 1000);
        g.learn(50);
        E.due("no low alarm", g.gauge(5), 0);
        g.set(9, 200);
        g.set(10, 1000);
        g.learn(1);
        E.due("no high alarm", g.gauge(5), 0);
        g.shoot(1);
        E.due("high alarm behind a shot", g.gauge(5), 2);
        g.set(10, 1800);
        g.learn(50);
        E.due("it does not end", g.gauge(5), 2);
        E.due("alarms", g.gauge(12), 1);
        EchoGauge missing = new EchoGauge();
        missing.shoot(5);
        missing.set(0, 100);
        missing.shoot(3);
        E.due("misses", missing.gauge(4), 1);
        missing.set(8, 2);
        missing.learn(50);
        E.due("misses", missing.gauge(4), 1);
        E.due("told distance", missing.gauge(2), 1500);
        E.due("picks", missing.gauge(9), 2);
    }

    private static void learnKeepsWhatWasMasked() {
        E.sentence("and masks the bins of all their echoes of the kinds 0 and 1 that are left behind chance, and whose "
            + "distance is at most H.");
        EchoGauge g = new EchoGauge();
        g.mask(1700, true);
        g.mask(10000, true);
        g.addThing(400, 50);
        E.due("learn", g.learn(2), 3);
        g.removeThing(0);
        g.addThing(700, 50);
        E.due("learn", g.learn(1), 4);
        int[] masked = {400, 700, 1700, 10000};
        for (int distance : masked) {
            E.due("masked at " + distance, g.isMasked(distance), true);
        }
    }

    // ---- looking at echoes

    private static EchoGauge seenTwice() {
        EchoGauge g = new EchoGauge();
        g.addThing(350, 60);
        g.addThing(1200, 50);
        g.shoot(2);
        g.set(4, 1);
        return g;
    }

    private static void stillSeen(String name, Edges.Call call) {
        EchoGauge g = seenTwice();
        call.on(g);
        g.shoot(1);
        E.due("distance behind " + name, g.echo(0, 1), 350);
        E.due("candidate behind " + name, g.echo(0, 3), 1);
        E.due("dropped behind " + name, g.echo(0, 4), 0);
        E.due("drops behind " + name, g.gauge(11), 0);
    }

    private static void guardLooksBackThroughEveryCall() {
        E.sentence(LOOKED_AT_THEN);
        stillSeen("none", g -> 0);
        stillSeen("setLevel", g -> g.setLevel(400));
        stillSeen("setFlow", g -> g.setFlow(5));
        stillSeen("setFoam", g -> g.setFoam(40));
        stillSeen("addThing", g -> g.addThing(900, 50));
        stillSeen("removeThing", g -> g.removeThing(1));
        stillSeen("removed and added", g -> g.removeThing(0) + g.addThing(365, 60) + g.removeThing(1)
            + g.addThing(350, 60));
        stillSeen("setStirrer", g -> g.setStirrer(0, 310, 590, 3, 3));
        int[] values = {0, 0, 60, 20, 1, 2, 1, 1, 1, 0, 10000, 500};
        for (int what = 0; what < 12; what++) {
            int setting = what;
            stillSeen("set(" + what + ")", g -> g.set(setting, values[setting]));
        }
        stillSeen("guard off and on", g -> g.set(4, 0) + g.set(4, 1));
        stillSeen("need up and down", g -> g.set(2, 100) + g.set(2, 20));
        stillSeen("setS", g -> g.setS(9));
        stillSeen("mask", g -> g.mask(1200, true));
        stillSeen("masked and unmasked", g -> g.mask(350, true) + g.mask(350, false));
        stillSeen("masked and forgotten", g -> g.mask(350, true) + g.forget());
        stillSeen("forget", EchoGauge::forget);
        stillSeen("learn", g -> g.learn(3) + g.forget());
        stillSeen("learn without it", g -> g.set(0, 100) + g.learn(3) + g.set(0, 0));
        stillSeen("forecasts", g -> g.toldAfter(500) + g.worstError(200) + g.bestMode(200));
        stillSeen("undo", g -> g.setLevel(1999) + g.shoot(5) + g.undo() + g.undo());
        stillSeen("an empty run", g -> Edges.run(g, ""));
        stillSeen("a run", g -> Edges.run(g, "level 400;flow 3;foam 7;thing 900 50;blades 0 310 590 3 3;set 5 1;"));
        stillSeen("a faulty run", g -> Edges.run(g, "shoot 5;shoot"));
    }

    private static void guardForgetsWithBeginAlone() {
        E.sentence(LOOKED_AT_THEN);
        EchoGauge g = seenTwice();
        g.begin(2000);
        g.addThing(350, 60);
        g.set(4, 1);
        int[] dropped = {1, 1, 0, 0};
        for (int i = 0; i < dropped.length; i++) {
            g.shoot(1);
            E.due("dropped by shot " + i, g.echo(0, 4), dropped[i]);
        }
        EchoGauge run = seenTwice();
        Edges.run(run, "tank 2000;thing 350 60;set 4 1;");
        for (int i = 0; i < dropped.length; i++) {
            run.shoot(1);
            E.due("dropped by shot " + i, run.echo(0, 4), dropped[i]);
        }
    }

    private static void nearestIsByTheToldDistance() {
        E.sentence("2 the one nearest to the told distance (or the first one, if none is told)");
        EchoGauge g = new EchoGauge();
        g.set(6, 1);
        g.set(7, 20);
        g.set(5, 2);
        g.shoot(1);
        Edges.shootAt(g, 1500);
        E.due("the second echo is nearer to 1500", g.pick(0), 1000);
        E.due("median", g.gauge(10), 1000);
        E.due("told distance", g.gauge(2), 1475);
        g.addThing(1200, 60);
        Edges.shootAt(g, 500);
        E.due("nearer to 1475, not to 1000", g.pick(0), 1500);
    }

    // ---- promise 25

    private static void toldAfterGoesOnWithTheMisses() {
        E.sentence("Tells after how many shots a level would be told first.");
        int[] patience = {3, 4, 5, 10};
        int[] shots = {4, 5, 3, 3};
        for (int i = 0; i < patience.length; i++) {
            EchoGauge g = new EchoGauge();
            g.set(8, patience[i]);
            g.set(0, 100);
            g.shoot(2);
            g.set(0, 0);
            E.due("told after, with patience " + patience[i], g.toldAfter(500), shots[i]);
            E.due("within one less", g.toldAfter(shots[i] - 1), -1);
            g.shoot(shots[i] - 1);
            E.due("told ahead of the last shot", g.gauge(2), -1);
            g.shoot(1);
            E.due("told behind it", g.gauge(2), 1500);
        }
    }

    // ---- promise 14

    private static void manyShotsAreAsManySingleOnes() {
        E.sentence("Takes shots. Undoable.");
        int[] most = {2, 250, 500};
        for (int shots : most) {
            EchoGauge many = lived();
            EchoGauge single = lived();
            EchoGauge[] both = {many, single};
            for (EchoGauge g : both) {
                g.set(0, 7);
                g.set(5, 1);
            }
            int picks = many.shoot(shots);
            int found = 0;
            for (int i = 0; i < shots; i++) {
                found += single.shoot(1);
            }
            E.due("shots with a pick", found, picks);
            E.due("values", values(single).equals(values(many)), true);
        }
    }
}

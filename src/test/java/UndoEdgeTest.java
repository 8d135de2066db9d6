import java.util.ArrayList;
import java.util.List;

/** The boundaries of undo and of the digest: promises 31 and 32, the terms "UNDO" and "EXCEPTIONS", and 512 calls. */
public final class UndoEdgeTest {
    private static final Edges E = new Edges();
    private static final String RESTORES = "Restores the latest saved state and removes it from the undo stack.";
    private static final String WHOLE_STATE = "saves the whole state but the command text on an undo stack";
    private static final String STATES_AND_LENGTH = "the number of states on the undo stack, the length of the "
        + "command text;";

    public static void main(String[] args) {
        emptyStack();
        fourStates();
        statesLeft();
        theLatestStateComesBack();
        everyUndoableCallSavesOne();
        callsThatChangeNothingSave();
        otherCallsSaveNone();
        refusedCallsSaveNone();
        noneComesBehindExceptions();
        undoneStatesAreGone();
        theTextIsNotSaved();
        wholeStateComesBack();
        guardRowsComeBack();
        guardRowsAreAskedAhead();
        alarmsComeBack();
        missesComeBack();
        digestOfStates();
        digestOfTexts();
        digestOfPlaces();
        digestOfThingsAndBlades();
        digestOfEchoes();
        digestOfBins();
        digestWraps();
        manyCalls();
        E.end();
    }

    // ---- promise 31

    private static EchoGauge withSaves(int count) {
        EchoGauge g = new EchoGauge();
        for (int i = 1; i <= count; i++) {
            g.setFoam(i);
        }
        return g;
    }

    private static void emptyStack() {
        E.sentence("Throws `IllegalStateException` if the stack is empty");
        E.refused("undo of a new one", Edges.STATE, Edges::fresh, EchoGauge::undo);
        for (int saves = 1; saves <= 6; saves++) {
            int count = saves;
            E.refused("one undo too many behind " + saves, Edges.STATE, () -> {
                EchoGauge g = withSaves(count);
                for (int i = 0; i < Math.min(4, count); i++) {
                    g.undo();
                }
                return g;
            }, EchoGauge::undo);
        }
        E.refused("behind a text", Edges.STATE, () -> {
            EchoGauge g = new EchoGauge();
            Edges.typeAll(g, "flow 1;");
            return g;
        }, EchoGauge::undo);
    }

    private static void fourStates() {
        E.sentence("The stack keeps the latest 4 saved states and drops older ones.");
        for (int saves = 0; saves <= 10; saves++) {
            EchoGauge g = withSaves(saves);
            int kept = Math.min(4, saves);
            for (int left = kept - 1; left >= 0; left--) {
                E.due("undo behind " + saves, g.undo(), left);
                E.due("foam", g.tank(3), saves - kept + left);
            }
            E.due("undo behind all of " + saves, Edges.undo(g), Edges.NOTHING_TO_UNDO);
        }
    }

    private static void statesLeft() {
        E.sentence("Returns the number of states that are left on the stack.");
        EchoGauge g = withSaves(4);
        E.due("of four", g.undo(), 3);
        g.setFoam(9);
        E.due("of four", g.undo(), 3);
        g.setFoam(9);
        g.setFoam(10);
        E.due("the oldest is dropped", g.undo(), 3);
        E.due("of three", g.undo(), 2);
        E.due("of two", g.undo(), 1);
        E.due("of one", g.undo(), 0);
        E.due("foam", g.tank(3), 1);
        E.due("none", Edges.undo(g), Edges.NOTHING_TO_UNDO);
        E.due("saves go on", g.setFoam(2), 1);
        E.due("of one", g.undo(), 0);
    }

    private static void theLatestStateComesBack() {
        E.sentence(RESTORES);
        EchoGauge g = withSaves(3);
        g.undo();
        E.due("foam", g.tank(3), 2);
        g.undo();
        E.due("foam", g.tank(3), 1);
        g.setFoam(7);
        g.undo();
        E.due("foam", g.tank(3), 1);
        g.undo();
        E.due("foam", g.tank(3), 0);
    }

    private static final String[] NAMES = {"begin", "setLevel", "setFlow", "setFoam", "addThing", "removeThing",
        "setStirrer", "set", "setS", "mask", "learn", "forget", "shoot", "runCommands"};
    private static final Edges.Call[] CALLS = {g -> g.begin(700), g -> g.setLevel(9), g -> g.setFlow(-9),
        g -> g.setFoam(9), g -> g.addThing(9, 9), g -> g.removeThing(0), g -> g.setStirrer(3, 9, 99, 9, 9),
        g -> g.set(6, 2), g -> g.setS(9), g -> g.mask(1000, true), g -> g.learn(3), EchoGauge::forget,
        g -> g.shoot(12), EchoGauge::runCommands};

    private static final int ADD_THING = 4;

    private static void everyUndoableCallSavesOne() {
        E.sentence("Every method that is marked \"undoable\" saves the whole state but the command text on an "
            + "undo stack when it ends normally, also if it changes nothing. The saved state is the one from "
            + "before the call.");
        for (int i = 0; i < CALLS.length; i++) {
            EchoGauge g = withOneState();
            CALLS[i].on(g);
            E.due("states behind " + NAMES[i], g.undo(), 1);
            E.due("states", g.undo(), 0);
            E.due("states", Edges.undo(g), Edges.NOTHING_TO_UNDO);
            comesBack(NAMES[i] + " of a busy one", Edges.busy(), CALLS[i]);
            if (i != ADD_THING) {
                comesBack(NAMES[i] + " of a full one", Edges.full(), CALLS[i]);
            }
        }
    }

    private static void comesBack(String name, EchoGauge g, Edges.Call call) {
        List<Long> before = Edges.values(g);
        call.on(g);
        E.due("states behind " + name, g.undo(), 3);
        E.due("values behind " + name, Edges.values(g).equals(before), true);
    }

    /** A busy one whose stack holds one state. */
    private static EchoGauge withOneState() {
        EchoGauge g = Edges.busy();
        for (int i = 0; i < 4; i++) {
            g.undo();
        }
        g.shoot(2);
        return g;
    }

    private static void callsThatChangeNothingSave() {
        E.sentence("Every method that is marked \"undoable\" saves the whole state but the command text on an "
            + "undo stack when it ends normally, also if it changes nothing.");
        Edges.Call[] calls = {g -> g.begin(2000), g -> g.setLevel(500), g -> g.setFlow(0), g -> g.setFoam(0),
            g -> g.setStirrer(0, 300, 600, 47, 20), g -> g.set(0, 0), g -> g.set(6, 5), g -> g.set(11, 20),
            g -> g.setS(1), g -> g.mask(0, false), EchoGauge::forget, EchoGauge::runCommands};
        for (int i = 0; i < calls.length; i++) {
            EchoGauge g = new EchoGauge();
            List<Long> before = Edges.values(g);
            calls[i].on(g);
            E.due("call " + i + " changes nothing", Edges.values(g).equals(before), true);
            E.due("call " + i + " saves a state", Edges.undo(g), 0);
        }
        EchoGauge masked = new EchoGauge();
        masked.mask(0, true);
        masked.mask(0, true);
        E.due("a mask again", masked.undo(), 1);
        E.due("is still there", masked.gauge(6), 1);
    }

    private static void otherCallsSaveNone() {
        E.sentence("Every method that is marked \"undoable\" saves the whole state but the command text on an "
            + "undo stack");
        Edges.Call[] calls = {g -> g.echo(0, 0), g -> g.pick(0), g -> g.isMasked(0) ? 1 : 0, g -> g.need(0),
            g -> g.thing(0, 0), g -> g.angle(0), g -> g.tank(0), g -> g.setting(0), g -> g.gauge(0),
            g -> (long) g.meanPick(), g -> g.toldAfter(5), g -> g.worstError(5), g -> g.bestMode(5), g -> g.type('x'),
            EchoGauge::clearCommands, EchoGauge::digest, g -> Edges.run(g, "flow 5"), g -> Edges.run(g, ";")};
        for (int i = 0; i < calls.length; i++) {
            EchoGauge g = new EchoGauge();
            g.addThing(400, 50);
            g.setStirrer(1, 300, 600, 47, 20);
            calls[i].on(g);
            E.due("states behind call " + i, g.undo(), 1);
        }
    }

    private static void refusedCallsSaveNone() {
        E.sentence("A call that throws an exception changes nothing.");
        E.refused("begin", Edges.ARGUMENT, g -> g.begin(499));
        E.refused("setLevel", Edges.ARGUMENT, g -> g.setLevel(10001));
        E.refused("setFlow", Edges.ARGUMENT, g -> g.setFlow(201));
        E.refused("setFoam", Edges.ARGUMENT, g -> g.setFoam(501));
        E.refused("addThing", Edges.ARGUMENT, g -> g.addThing(0, 0));
        E.refused("removeThing", Edges.INDEX, g -> g.removeThing(6));
        E.refused("setStirrer", Edges.ARGUMENT, g -> g.setStirrer(0, 0, 0, 0, 0));
        E.refused("set", Edges.ARGUMENT, g -> g.set(6, 0));
        E.refused("setS", Edges.ARGUMENT, g -> g.setS(-1));
        E.refused("mask", Edges.ARGUMENT, g -> g.mask(10001, true));
        E.refused("learn", Edges.ARGUMENT, g -> g.learn(51));
        E.refused("shoot", Edges.ARGUMENT, g -> g.shoot(501));
        E.refused("echo", Edges.ARGUMENT, g -> g.echo(0, 6));
        E.refused("pick", Edges.ARGUMENT, g -> g.pick(-1));
        E.refused("isMasked", Edges.ARGUMENT, g -> g.isMasked(-1) ? 1 : 0);
        E.refused("need", Edges.ARGUMENT, g -> g.need(-1));
        E.refused("thing", Edges.INDEX, g -> g.thing(6, 0));
        E.refused("angle", Edges.INDEX, g -> g.angle(6));
        E.refused("tank", Edges.ARGUMENT, g -> g.tank(12));
        E.refused("setting", Edges.ARGUMENT, g -> g.setting(12));
        E.refused("gauge", Edges.ARGUMENT, g -> g.gauge(13));
        E.refused("toldAfter", Edges.ARGUMENT, g -> g.toldAfter(501));
        E.refused("worstError", Edges.ARGUMENT, g -> g.worstError(0));
        E.refused("bestMode", Edges.ARGUMENT, g -> g.bestMode(0));
        E.refused("type", Edges.ARGUMENT, g -> g.type(128));
    }

    private static void noneComesBehindExceptions() {
        E.sentence("NONE is returned only if no exception applies.");
        EchoGauge g = new EchoGauge();
        E.due("echo(0, 5) without echoes", g.echo(0, 5), EchoGauge.NONE);
        E.refused("echo(0, 6) without echoes", Edges.ARGUMENT, Edges::fresh, one -> one.echo(0, 6));
        E.refused("echo(MAX, -1) without echoes", Edges.ARGUMENT, Edges::fresh, one -> one.echo(Integer.MAX_VALUE, -1));
        E.refused("echo(-1, 0) without echoes", Edges.ARGUMENT, Edges::fresh, one -> one.echo(-1, 0));
        E.due("pick(0) without shots", g.pick(0), EchoGauge.NONE);
        E.refused("pick(-1) without shots", Edges.ARGUMENT, Edges::fresh, one -> one.pick(-1));
        E.due("toldAfter(0) without a told one", g.toldAfter(0), EchoGauge.NONE);
        E.refused("toldAfter(-1) without a told one", Edges.ARGUMENT, Edges::fresh, one -> one.toldAfter(-1));
        g.set(0, 100);
        E.due("toldAfter(500) where none will be told", g.toldAfter(500), EchoGauge.NONE);
        E.refused("toldAfter(501) where none will be told", Edges.ARGUMENT, () -> {
            EchoGauge lost = new EchoGauge();
            lost.set(0, 100);
            return lost;
        }, one -> one.toldAfter(501));
    }

    private static void undoneStatesAreGone() {
        E.sentence(RESTORES);
        EchoGauge g = withSaves(2);
        g.undo();
        g.setFoam(50);
        g.setFoam(60);
        int[] foams = {50, 1, 0};
        for (int i = 0; i < foams.length; i++) {
            E.due("states", g.undo(), foams.length - 1 - i);
            E.due("foam", g.tank(3), foams[i]);
        }
        E.due("none is left", Edges.undo(g), Edges.NOTHING_TO_UNDO);
    }

    private static void theTextIsNotSaved() {
        E.sentence(WHOLE_STATE);
        EchoGauge g = new EchoGauge();
        Edges.typeAll(g, "flow 1;");
        g.setFoam(1);
        Edges.typeAll(g, "flow 2;");
        g.undo();
        E.due("run behind undo", g.runCommands(), 2);
        E.due("flow", g.tank(2), 2);
        g.clearCommands();
        g.undo();
        E.due("the text stays empty", g.clearCommands(), 0);
        EchoGauge full = Edges.full();
        full.undo();
        E.due("the text stays full", full.clearCommands(), 150);
    }

    private static void wholeStateComesBack() {
        E.sentence(WHOLE_STATE);
        for (int i = 0; i < CALLS.length; i++) {
            EchoGauge g = withOneState();
            CALLS[i].on(g);
            g.undo();
            E.due("all that follows behind undo of " + NAMES[i],
                Edges.future(g).equals(Edges.future(withOneState())), true);
        }
    }

    private static void guardRowsComeBack() {
        E.sentence(RESTORES);
        for (int before = 0; before <= 3; before++) {
            for (int undone = 1; undone <= 3; undone++) {
                EchoGauge g = guarded(before);
                g.shoot(undone);
                g.undo();
                g.shoot(1);
                E.due("dropped behind " + before + " shots and " + undone + " undone ones", g.echo(0, 4),
                    before < 2 ? 1 : 0);
                EchoGauge gone = guarded(before);
                gone.removeThing(0);
                gone.shoot(undone);
                gone.undo();
                gone.undo();
                gone.shoot(1);
                E.due("dropped behind " + before + " shots and " + undone + " undone empty ones", gone.echo(0, 4),
                    before < 2 ? 1 : 0);
            }
        }
    }

    private static EchoGauge guarded(int shots) {
        EchoGauge g = new EchoGauge();
        g.addThing(400, 50);
        g.set(4, 1);
        g.set(6, 1);
        g.set(7, 1);
        for (int i = 0; i < shots; i++) {
            g.shoot(1);
        }
        return g;
    }

    private static void guardRowsAreAskedAhead() {
        E.sentence("Returns the greatest difference between the level and the told level behind each of some "
            + "shots (0 without a shot behind which one is told).");
        for (int before = 0; before <= 3; before++) {
            for (int shots = 1; shots <= 4; shots++) {
                EchoGauge g = guarded(before);
                int error = before + shots > 2 ? 1100 : 0;
                E.due("worstError(" + shots + ") behind " + before, g.worstError(shots), error);
                E.due("asked again", g.worstError(shots), error);
                E.due("bestMode(" + shots + ") behind " + before, g.bestMode(shots), error > 0 ? 1 : 0);
                g.shoot(1);
                E.due("dropped behind it", g.echo(0, 4), before < 2 ? 1 : 0);
            }
        }
    }

    private static void alarmsComeBack() {
        E.sentence(RESTORES);
        EchoGauge g = Edges.direct();
        Edges.shootAt(g, 200);
        Edges.shootAt(g, 1800);
        E.due("alarm", g.gauge(5), 2);
        E.due("alarms", g.gauge(12), 2);
        g.undo();
        E.due("alarm behind undo", g.gauge(5), 1);
        E.due("alarms behind undo", g.gauge(12), 1);
        g.undo();
        g.undo();
        E.due("alarm behind all", g.gauge(5), 0);
        E.due("alarms behind all", g.gauge(12), 0);
    }

    private static void missesComeBack() {
        E.sentence(RESTORES);
        EchoGauge g = Edges.direct();
        g.shoot(1);
        g.set(0, 100);
        g.shoot(9);
        g.shoot(1);
        E.due("none told", g.gauge(2), -1);
        g.undo();
        E.due("told behind undo", g.gauge(2), 1500);
        E.due("misses behind undo", g.gauge(4), 9);
        E.due("shots behind undo", g.gauge(0), 10);
        E.due("shots that had a pick behind undo", g.gauge(1), 1);
        g.undo();
        E.due("misses behind two", g.gauge(4), 0);
        E.due("pick behind two", g.pick(0), 1500);
    }

    // ---- promise 32

    private static final class Digest {
        long h = 18907L;

        void add(long value) {
            h = 31L * h + value;
        }
    }

    private static long digestOf(EchoGauge g, int states, int length) {
        Digest digest = new Digest();
        digest.add(states);
        digest.add(length);
        for (int what = 0; what <= 11; what++) {
            digest.add(g.tank(what));
        }
        for (int what = 0; what <= 11; what++) {
            digest.add(g.setting(what));
        }
        for (int what = 0; what <= 12; what++) {
            digest.add(g.gauge(what));
        }
        for (int thing = 0; thing < g.tank(4); thing++) {
            digest.add(g.thing(thing, 0));
            digest.add(g.thing(thing, 1));
        }
        for (int blade = 0; blade < g.tank(5); blade++) {
            digest.add(g.angle(blade));
        }
        for (int echo = 0; echo < g.gauge(7); echo++) {
            for (int what = 0; what <= 5; what++) {
                digest.add(g.echo(echo, what));
            }
        }
        for (int back = 0; back <= g.setting(6) - 1; back++) {
            digest.add(g.pick(back));
        }
        for (int bin = 0; bin <= 500; bin++) {
            digest.add(g.isMasked(20 * bin) ? 1 : 0);
        }
        return digest.h;
    }

    private static void digestIs(String name, EchoGauge g, int states, int length) {
        E.due("digest " + name, g.digest(), digestOf(g, states, length));
    }

    private static void digestOfStates() {
        E.sentence(STATES_AND_LENGTH);
        for (int saves = 0; saves <= 6; saves++) {
            EchoGauge g = withSaves(saves);
            int states = Math.min(4, saves);
            digestIs("behind " + saves, g, states, 0);
            if (states > 0) {
                g.undo();
                digestIs("behind undo of " + saves, g, states - 1, 0);
            }
        }
    }

    private static void digestOfTexts() {
        E.sentence(STATES_AND_LENGTH);
        for (int length : new int[] {0, 1, 149, 150}) {
            EchoGauge g = new EchoGauge();
            Edges.typeAll(g, "x".repeat(length));
            digestIs("with " + length + " bytes", g, 0, length);
            g.runCommands();
            digestIs("behind a run", g, length == 0 ? 1 : 0, length);
            g.clearCommands();
            digestIs("without a text", g, length == 0 ? 1 : 0, 0);
        }
    }

    private static void digestOfPlaces() {
        E.sentence("pick() of 0 to N - 1;");
        for (int places = 1; places <= 9; places++) {
            EchoGauge g = new EchoGauge();
            g.set(6, places);
            digestIs("of " + places + " places without shots", g, 1, 0);
            g.shoot(places);
            digestIs("of " + places + " places", g, 2, 0);
            g.shoot(1);
            digestIs("of " + places + " places, one dropped", g, 3, 0);
        }
        EchoGauge few = new EchoGauge();
        few.set(6, 9);
        few.shoot(2);
        digestIs("of nine places and two shots", few, 2, 0);
        few.set(6, 1);
        digestIs("of one place", few, 3, 0);
    }

    private static void digestOfThingsAndBlades() {
        E.sentence("for each fixed thing thing() of 0 and 1; for each blade angle();");
        for (int count = 0; count <= 6; count++) {
            EchoGauge g = new EchoGauge();
            for (int i = 0; i < count; i++) {
                g.addThing(100 + i, 20 + i);
            }
            digestIs("of " + count + " things", g, Math.min(4, count), 0);
            g.setStirrer(count, 300, 600, 359, 20);
            g.learn(1);
            digestIs("of " + count + " blades", g, Math.min(4, count + 2), 0);
        }
    }

    private static void digestOfEchoes() {
        E.sentence("for each echo of the latest shot echo() of 0 to 5;");
        EchoGauge full = Edges.full();
        full.setFoam(100);
        full.shoot(3);
        E.due("many echoes", full.gauge(7) > 8, true);
        digestIs("of many echoes", full, 4, 150);
        full.learn(1);
        digestIs("of echoes of learn()", full, 4, 150);
        full.set(0, 100);
        full.shoot(1);
        E.due("no echo", full.gauge(7), 0);
        digestIs("of no echo", full, 4, 150);
        digestIs("of a busy one", Edges.busy(), 4, 15);
    }

    private static void digestOfBins() {
        E.sentence("for each bin from 0 to 500, 1 if it is masked, otherwise 0.");
        List<Long> digests = new ArrayList<>();
        for (int distance : new int[] {0, 19, 20, 1279, 1280, 9999, 10000}) {
            EchoGauge g = new EchoGauge();
            g.mask(distance, true);
            digestIs("with " + distance + " masked", g, 1, 0);
            digests.add(g.digest());
        }
        E.due("one bin", digests.get(0), digests.get(1));
        E.check.differs("bins 0 and 1", digests.get(1), digests.get(2));
        E.check.differs("bins 63 and 64", digests.get(3), digests.get(4));
        E.check.differs("bins 499 and 500", digests.get(5), digests.get(6));
        E.due("the last bin counts 1, the one before it 31", digests.get(5) - digests.get(6), 30);
    }

    private static void digestWraps() {
        E.sentence("h becomes 31 * h + v (long arithmetic, overflow wraps).");
        EchoGauge g = new EchoGauge();
        long first = g.digest();
        digestIs("at first", g, 0, 0);
        g.type(' ');
        int behind = 12 + 12 + 13 + 5 + 501;
        long weight = 1;
        for (int i = 0; i < behind; i++) {
            weight *= 31;
        }
        E.due("one byte more", g.digest() - first, weight);
        digestIs("again", g, 0, 1);
        g.setS(2147483647);
        digestIs("of the greatest s", g, 1, 1);
    }

    // ---- what it is

    private static void manyCalls() {
        E.sentence("An object is used for at most 512 calls after it has been made; what later calls answer is "
            + "free.");
        EchoGauge shots = new EchoGauge();
        for (int call = 1; call <= 511; call++) {
            E.due("shoot " + call, shots.shoot(500), 500);
        }
        E.due("the 512th call", shots.gauge(0), 255500);
        EchoGauge saves = new EchoGauge();
        for (int call = 0; call < 508; call++) {
            saves.setFoam(call % 500);
        }
        for (int left = 3; left >= 0; left--) {
            E.due("undo", saves.undo(), left);
        }
        EchoGauge drops = Edges.full();
        int before = drops.gauge(11);
        for (int i = 1; i <= 6; i++) {
            drops.removeThing(0);
        }
        drops.setStirrer(2, 300, 600, 90, 45);
        for (int call = 0; call < 300; call++) {
            drops.shoot(500);
        }
        E.due("drops of 150000 shots", drops.gauge(11) - before, 75000);
    }
}

/** The boundaries of the tank: promises 1 to 8, and the terms "THE TANK" and "ECHOES". */
public final class TankEdgeTest {
    private static final Edges E = new Edges();
    private static final String NEW_GAUGE = "Creates a gauge on a tank with everything as at first, without "
        + "things, masks and shots, with an empty command text and an empty undo stack.";
    private static final String BEGIN = "Begins with a tank that is so deep; everything else is as at first, "
        + "but for s and the command text, which stay. Undoable.";
    private static final String LEVEL = "The liquid has a level, 0 to H (500 at first); the surface is at the "
        + "distance d = H - level.";
    private static final String FLOW = "With each shot the level first changes by the flow (-200 to 200, 0 at "
        + "first), but not below 0 and not above H.";
    private static final String FOAM_ECHO = "(3) if F is greater than 0: kind 2, the distance max(0, d - F), "
        + "the strength max(10, 70 - F / 10);";
    private static final String SURFACE_ECHO = "(4) if no blade gave an echo by (2): the surface, kind 3, the "
        + "distance d, the strength max(0, 80 - F / 5);";
    private static final String SECOND_ECHO = "(5) if (4) gave one: its second echo, kind 4, the distance 2 * "
        + "d, half the strength (cut).";
    private static final String LOSS = "a number below 100 is drawn; if it is less than the loss (0 to 100, 0 "
        + "at first), the echo is lost;";
    private static final String JITTER = "otherwise, if the jitter j (0 to 20, 0 at first) is greater than 0, a "
        + "number below 2 * j + 1 is drawn, and the distance becomes distance + number - j, but not below 0.";
    private static final String DRAW = "s becomes (1103515245 * s + 12345) modulo 2147483648, and the number is "
        + "(s / 65536, rounded down) modulo m. s is 1 at first.";
    private static final String ORDER = "The echoes that are left are put in order: by ascending distances, "
        + "equal ones by descending strengths, equal ones by ascending kinds (and equal ones as they came).";
    private static final int THING = 0;
    private static final int BLADE = 1;
    private static final int FOAM = 2;
    private static final int SURFACE = 3;
    private static final int SECOND = 4;

    public static void main(String[] args) {
        newGaugeIsEmpty();
        newGaugeIsAsAtFirst();
        depthRange();
        beginLeavesSAndTextAlone();
        beginStartsEverythingAgain();
        beginAnswersShots();
        levelRange();
        levelRangeFollowsTheDepth();
        surfaceDistance();
        flowRange();
        flowStopsAtTheBottom();
        flowStopsAtTheTop();
        flowComesFirst();
        foamRange();
        thingRanges();
        sixThingsAtMost();
        refusedThingsTellTheFirstException();
        thingsAreRemoved();
        thingsBehindMoveUp();
        stirrerRanges();
        upperIsBelowLower();
        stirrerKeepsThePhase();
        bladesAlternate();
        phaseWraps();
        angleWraps();
        beamIsClosed();
        thingsAboveTheSurface();
        bladesAboveTheSurface();
        foamFromOneMillimeter();
        foamIsNotAboveTheGauge();
        foamStrength();
        surfaceStrength();
        surfaceNeedsNoBladeInTheBeam();
        secondEchoIsHalf();
        secondEchoComesWithTheSurface();
        lossIsBelow();
        lossOfNoneAndAll();
        jitterDrawsOnlyIfGreaterThanZero();
        jitterRange();
        jitterNotBelowZero();
        lostEchoesDrawNoJitter();
        numbersAreRoundedDown();
        chanceWraps();
        orderByDistance();
        orderByStrength();
        orderByKind();
        E.end();
    }

    private static void echoIs(EchoGauge g, int echo, int kind, int distance, int strength) {
        E.due("kind of echo " + echo, g.echo(echo, 0), kind);
        E.due("distance of echo " + echo, g.echo(echo, 1), distance);
        E.due("strength of echo " + echo, g.echo(echo, 2), strength);
    }

    private static void echoesAre(EchoGauge g, int... kinds) {
        E.due("number of echoes", g.gauge(7), kinds.length);
        for (int i = 0; i < kinds.length; i++) {
            E.due("kind of echo " + i, g.echo(i, 0), kinds[i]);
        }
    }

    // ---- promise 1

    private static void newGaugeIsEmpty() {
        E.sentence(NEW_GAUGE);
        E.refused("undo of a new one", Edges.STATE, Edges::fresh, EchoGauge::undo);
        E.refused("thing(0, 0) of a new one", Edges.INDEX, Edges::fresh, g -> g.thing(0, 0));
        E.refused("angle(0) of a new one", Edges.INDEX, Edges::fresh, g -> g.angle(0));
        EchoGauge g = new EchoGauge();
        E.due("clearCommands", g.clearCommands(), 0);
        E.due("shots", g.gauge(0), 0);
        E.due("things", g.tank(4), 0);
        E.due("masked bins", g.gauge(6), 0);
        E.due("masked bins", g.forget(), 0);
        E.due("echoes", g.gauge(7), 0);
        E.due("shots in the history", g.gauge(8), 0);
    }

    private static void newGaugeIsAsAtFirst() {
        E.sentence(NEW_GAUGE);
        int[] tank = {2000, 500, 0, 0, 0, 0, 300, 600, 0, 47, 20, 1};
        int[] settings = {0, 0, 20, 2, 0, 0, 5, 4, 10, 200, 1800, 20};
        EchoGauge g = new EchoGauge();
        for (int what = 0; what < 12; what++) {
            E.due("tank(" + what + ")", g.tank(what), tank[what]);
            E.due("setting(" + what + ")", g.setting(what), settings[what]);
        }
    }

    // ---- promise 2

    private static void depthRange() {
        E.sentence("The tank is H millimeters deep (500 to 10000, 2000 at first); distances are measured from "
            + "the gauge at its top, downward.");
        E.due("H at first", new EchoGauge().tank(0), 2000);
        E.range("begin", 500, 10000, Edges::fresh, EchoGauge::begin);
        E.range("begin", 500, 10000, Edges::busy, EchoGauge::begin);
        E.range("begin", 500, 10000, Edges::full, EchoGauge::begin);
        for (int depth : new int[] {500, 501, 9999, 10000}) {
            EchoGauge g = new EchoGauge();
            g.begin(depth);
            E.due("H", g.tank(0), depth);
            g.shoot(1);
            E.due("surface", g.echo(0, 1), depth - 500);
        }
    }

    private static void beginLeavesSAndTextAlone() {
        E.sentence(BEGIN);
        EchoGauge g = Edges.full();
        int s = g.tank(11);
        g.begin(2000);
        EchoGauge fresh = new EchoGauge();
        fresh.setS(s);
        E.due("values are as at first", Edges.values(g).equals(Edges.values(fresh)), true);
        E.due("s stays", g.tank(11), s);
        E.due("length of the text stays", g.clearCommands(), 150);
        E.due("states", g.undo(), 3);
        E.due("H comes back", g.tank(4), 6);
    }

    /** With every value of the tank, every setting and every value of the gauge away from what it is at first. */
    private static EchoGauge changed() {
        EchoGauge g = new EchoGauge();
        int[] settings = {1, 2, 3, 4, 1, 2, 3, 5, 6, 700, 800, 9};
        for (int what = 11; what >= 0; what--) {
            g.set(what, settings[what]);
        }
        g.addThing(400, 50);
        g.addThing(700, 50);
        g.mask(0, true);
        g.mask(10000, true);
        g.setFoam(10);
        g.setFlow(-20);
        g.setStirrer(2, 310, 610, 48, 21);
        g.shoot(20);
        g.set(0, 100);
        g.shoot(3);
        return g;
    }

    private static void beginStartsEverythingAgain() {
        E.sentence(BEGIN);
        for (int depth : new int[] {500, 2000, 10000}) {
            EchoGauge g = changed();
            int[] first = {0, 0, -1, -1, 0, 0, 0, 0, 0, 0, -1, 0, 0};
            for (int what : new int[] {0, 1, 2, 3, 4, 5, 6, 8, 11, 12}) {
                E.check.differs("gauge(" + what + ") ahead of begin()", g.gauge(what), first[what]);
            }
            g.begin(depth);
            EchoGauge fresh = new EchoGauge();
            fresh.begin(depth);
            fresh.setS(g.tank(11));
            E.due("values are as at first", Edges.values(g).equals(Edges.values(fresh)), true);
            for (EchoGauge one : new EchoGauge[] {g, fresh}) {
                one.set(4, 1);
                one.addThing(400, 50);
                one.shoot(5);
            }
            E.due("what follows is as at first", Edges.values(g).equals(Edges.values(fresh)), true);
        }
    }

    private static void beginAnswersShots() {
        E.sentence("Returns the number of shots before.");
        EchoGauge g = new EchoGauge();
        E.due("begin without shots", g.begin(2000), 0);
        g.shoot(1);
        E.due("begin behind one shot", g.begin(2000), 1);
        E.due("begin behind begin", g.begin(2000), 0);
        g.shoot(500);
        g.shoot(1);
        g.learn(50);
        E.due("begin behind 501 shots and 50 of learn()", g.begin(2000), 501);
        g.set(0, 100);
        g.shoot(3);
        E.due("begin behind 3 shots without a pick", g.begin(2000), 3);
    }

    // ---- promise 3

    private static void levelRange() {
        E.sentence(LEVEL);
        E.due("level at first", new EchoGauge().tank(1), 500);
        E.range("setLevel", 0, 2000, Edges::fresh, EchoGauge::setLevel);
        E.range("setLevel", 0, 2000, Edges::busy, EchoGauge::setLevel);
        EchoGauge g = new EchoGauge();
        int previous = 500;
        for (int level : new int[] {0, 1, 1999, 2000, 0}) {
            E.due("setLevel(" + level + ")", g.setLevel(level), previous);
            E.due("level", g.tank(1), level);
            previous = level;
        }
    }

    private static void levelRangeFollowsTheDepth() {
        E.sentence("`level`: 0 to H");
        for (int depth : new int[] {500, 501, 10000}) {
            E.range("setLevel in " + depth, 0, depth, () -> {
                EchoGauge g = new EchoGauge();
                g.begin(depth);
                return g;
            }, EchoGauge::setLevel);
        }
    }

    private static void surfaceDistance() {
        E.sentence(LEVEL);
        for (int level : new int[] {0, 1, 1999, 2000}) {
            EchoGauge g = new EchoGauge();
            Edges.shootAt(g, level);
            echoIs(g, 0, SURFACE, 2000 - level, 80);
            echoIs(g, 1, SECOND, 2 * (2000 - level), 40);
        }
    }

    // ---- promise 4

    private static void flowRange() {
        E.sentence("`flow`: -200 to 200");
        E.due("flow at first", new EchoGauge().tank(2), 0);
        E.range("setFlow", -200, 200, Edges::fresh, EchoGauge::setFlow);
        E.range("setFlow", -200, 200, Edges::busy, EchoGauge::setFlow);
        EchoGauge g = new EchoGauge();
        int previous = 0;
        for (int flow : new int[] {-200, -199, -1, 0, 1, 199, 200}) {
            E.due("setFlow(" + flow + ")", g.setFlow(flow), previous);
            E.due("flow", g.tank(2), flow);
            previous = flow;
        }
    }

    private static int levelBehind(int level, int flow, boolean learned) {
        EchoGauge g = new EchoGauge();
        g.setLevel(level);
        g.setFlow(flow);
        if (learned) {
            g.learn(1);
        } else {
            g.shoot(1);
        }
        return g.tank(1);
    }

    private static void levelsAre(int[][] rows) {
        for (int[] row : rows) {
            E.due("level " + row[0] + " with flow " + row[1], levelBehind(row[0], row[1], false), row[2]);
            E.due("level " + row[0] + " with flow " + row[1] + ", learn()", levelBehind(row[0], row[1], true), row[2]);
        }
    }

    private static void flowStopsAtTheBottom() {
        E.sentence(FLOW);
        levelsAre(new int[][] {{201, -200, 1}, {200, -200, 0}, {199, -200, 0}, {0, -200, 0},
            {2, -1, 1}, {1, -1, 0}, {0, -1, 0}, {0, 0, 0}, {0, 1, 1}});
    }

    private static void flowStopsAtTheTop() {
        E.sentence(FLOW);
        levelsAre(new int[][] {{1799, 200, 1999}, {1800, 200, 2000}, {1801, 200, 2000}, {2000, 200, 2000},
            {1998, 1, 1999}, {1999, 1, 2000}, {2000, 1, 2000}, {2000, 0, 2000}, {2000, -1, 1999}});
    }

    private static void flowComesFirst() {
        E.sentence(FLOW);
        EchoGauge g = new EchoGauge();
        g.setFlow(1);
        g.shoot(1);
        echoIs(g, 0, SURFACE, 1499, 80);
        g.shoot(2);
        echoIs(g, 0, SURFACE, 1497, 80);
        g.learn(2);
        echoIs(g, 0, SURFACE, 1495, 80);
        g.undo();
        E.due("level behind undo", g.tank(1), 503);
    }

    // ---- promise 5

    private static void foamRange() {
        E.sentence("Foam on the liquid has a thickness F (0 to 500, 0 at first).");
        E.due("foam at first", new EchoGauge().tank(3), 0);
        E.range("setFoam", 0, 500, Edges::fresh, EchoGauge::setFoam);
        E.range("setFoam", 0, 500, Edges::busy, EchoGauge::setFoam);
        EchoGauge g = new EchoGauge();
        int previous = 0;
        for (int foam : new int[] {0, 1, 499, 500, 0}) {
            E.due("setFoam(" + foam + ")", g.setFoam(foam), previous);
            E.due("foam", g.tank(3), foam);
            previous = foam;
        }
    }

    // ---- promise 6

    private static void thingRanges() {
        E.sentence("There are at most 6 fixed things, numbered from 0, each with a distance (0 to 10000) and a "
            + "strength (1 to 100).");
        E.range("addThing, distance", 0, 10000, Edges::fresh, (g, value) -> g.addThing(value, 50));
        E.range("addThing, strength", 1, 100, Edges::fresh, (g, value) -> g.addThing(50, value));
        E.range("addThing, distance", 0, 10000, Edges::busy, (g, value) -> g.addThing(value, 50));
        E.range("addThing, strength", 1, 100, Edges::busy, (g, value) -> g.addThing(50, value));
        EchoGauge g = new EchoGauge();
        int[][] things = {{0, 1}, {1, 2}, {9999, 99}, {10000, 100}};
        for (int i = 0; i < things.length; i++) {
            E.due("addThing", g.addThing(things[i][0], things[i][1]), i);
            E.due("distance", g.thing(i, 0), things[i][0]);
            E.due("strength", g.thing(i, 1), things[i][1]);
        }
    }

    private static EchoGauge withThings(int count) {
        EchoGauge g = new EchoGauge();
        for (int i = 0; i < count; i++) {
            g.addThing(10 * i + 10, i + 20);
        }
        return g;
    }

    private static void sixThingsAtMost() {
        E.sentence("Throws `IllegalStateException` if there are 6 things");
        E.due("the fifth", withThings(4).addThing(5, 5), 4);
        E.due("the sixth", withThings(5).addThing(5, 5), 5);
        E.refused("the seventh", Edges.STATE, () -> withThings(6), g -> g.addThing(5, 5));
        E.refused("the seventh", Edges.STATE, Edges::full, g -> g.addThing(0, 1));
        E.refused("the seventh", Edges.STATE, Edges::full, g -> g.addThing(10000, 100));
        EchoGauge g = withThings(6);
        g.removeThing(5);
        E.due("the sixth again", g.addThing(5, 5), 5);
        E.due("things", g.tank(4), 6);
    }

    private static void refusedThingsTellTheFirstException() {
        E.sentence("If several exceptions of a method apply, the one that is listed first is thrown.");
        int[][] wrong = {{-1, 50}, {10001, 50}, {50, 0}, {50, 101}, {-1, 0}, {Integer.MIN_VALUE, Integer.MAX_VALUE}};
        for (int[] pair : wrong) {
            E.refused("addThing(" + pair[0] + ", " + pair[1] + ") with six", Edges.ARGUMENT, Edges::full,
                g -> g.addThing(pair[0], pair[1]));
        }
    }

    // ---- promise 7

    private static void thingsAreRemoved() {
        E.sentence("Throws `IndexOutOfBoundsException` if there is no such thing");
        for (int count = 0; count <= 6; count++) {
            int things = count;
            for (int thing : new int[] {-1, count, count + 1, Integer.MIN_VALUE, Integer.MAX_VALUE}) {
                E.refused("removeThing(" + thing + ") of " + count, Edges.INDEX, () -> withThings(things),
                    g -> g.removeThing(thing));
            }
            for (int thing = 0; thing < count; thing++) {
                E.due("removeThing(" + thing + ") of " + count, withThings(count).removeThing(thing), count - 1);
            }
        }
    }

    private static void thingsBehindMoveUp() {
        E.sentence("Removes a fixed thing; the numbers of those behind it decrease by 1. Undoable.");
        for (int removed = 0; removed < 6; removed++) {
            EchoGauge g = withThings(6);
            g.removeThing(removed);
            for (int i = 0; i < 5; i++) {
                int was = i < removed ? i : i + 1;
                E.due("distance of " + i + " without " + removed, g.thing(i, 0), 10 * was + 10);
                E.due("strength of " + i + " without " + removed, g.thing(i, 1), was + 20);
            }
            E.due("things left", g.tank(4), 5);
        }
    }

    // ---- promise 8

    private static void stirrerRanges() {
        E.sentence("The stirrer has 0 to 6 blades (0 at first), numbered from 0, with an upper distance A and a "
            + "lower distance B (0 to 10000, A less than B; 300 and 600 at first): blades with an even number "
            + "are at A, the others at B.");
        Edges.Maker[] makers = {Edges::fresh, Edges::busy, Edges::full};
        for (Edges.Maker maker : makers) {
            E.range("blades", 0, 6, maker, (g, value) -> g.setStirrer(value, 300, 600, 47, 20));
            E.range("upper", 0, 9999, maker, (g, value) -> g.setStirrer(2, value, 10000, 47, 20));
            E.range("lower", 1, 10000, maker, (g, value) -> g.setStirrer(2, 0, value, 47, 20));
            E.range("speed", 0, 359, maker, (g, value) -> g.setStirrer(2, 300, 600, value, 20));
            E.range("beam", 0, 90, maker, (g, value) -> g.setStirrer(2, 300, 600, 47, value));
        }
        EchoGauge g = new EchoGauge();
        int previous = 0;
        int[][] rows = {{6, 0, 1, 359, 90}, {0, 9999, 10000, 0, 0}, {1, 4, 9, 358, 89}, {5, 1, 2, 1, 1}};
        for (int[] row : rows) {
            E.due("setStirrer", g.setStirrer(row[0], row[1], row[2], row[3], row[4]), previous);
            previous = row[0];
            int[] places = {5, 6, 7, 9, 10};
            for (int i = 0; i < 5; i++) {
                E.due("tank(" + places[i] + ")", g.tank(places[i]), row[i]);
            }
        }
    }

    private static void upperIsBelowLower() {
        E.sentence("`lower`: distance B, above A to 10000");
        E.range("lower above 300", 301, 10000, Edges::busy, (g, value) -> g.setStirrer(2, 300, value, 47, 20));
        E.range("lower above 9999", 10000, 10000, Edges::busy, (g, value) -> g.setStirrer(2, 9999, value, 47, 20));
        E.range("upper below 300", 0, 299, Edges::busy, (g, value) -> g.setStirrer(2, value, 300, 47, 20));
        E.refused("none fits above 10000", Edges.ARGUMENT, g -> g.setStirrer(2, 10000, 10000, 47, 20));
        E.refused("none fits above 10000", Edges.ARGUMENT, g -> g.setStirrer(2, 10000, 10001, 47, 20));
        E.refused("also without blades", Edges.ARGUMENT, g -> g.setStirrer(0, 600, 600, 47, 20));
    }

    private static void stirrerKeepsThePhase() {
        E.sentence("Sets the stirrer; the phase stays. Undoable.");
        for (int phase : new int[] {0, 1, 359}) {
            EchoGauge g = atPhase(phase, 2, 20);
            g.setStirrer(6, 0, 10000, 359, 90);
            E.due("phase", g.tank(8), phase);
            g.setStirrer(0, 300, 600, 0, 0);
            E.due("phase", g.tank(8), phase);
            g.undo();
            E.due("phase behind undo", g.tank(8), phase);
        }
    }

    private static void bladesAlternate() {
        E.sentence("blades with an even number are at A, the others at B.");
        for (int blade = 0; blade < 6; blade++) {
            EchoGauge g = atPhase((360 - 60 * blade) % 360, 6, 0);
            g.shoot(1);
            echoesAre(g, BLADE);
            echoIs(g, 0, BLADE, blade % 2 == 0 ? 300 : 600, 60);
        }
    }

    /** A gauge whose stirrer stands still at this phase. */
    private static EchoGauge atPhase(int phase, int blades, int beam) {
        EchoGauge g = new EchoGauge();
        g.setStirrer(0, 300, 600, phase, 0);
        g.shoot(1);
        g.setStirrer(blades, 300, 600, 0, beam);
        return g;
    }

    private static void phaseWraps() {
        E.sentence("The phase (0 to 359 degrees, 0 at first) increases with each shot, behind the flow, by the "
            + "speed (0 to 359, 47 at first), modulo 360.");
        int[][] rows = {{358, 1, 359}, {359, 1, 0}, {359, 2, 1}, {359, 359, 358}, {1, 359, 0}, {0, 359, 359},
            {180, 179, 359}, {180, 180, 0}, {180, 181, 1}, {359, 0, 359}, {0, 0, 0}};
        for (int[] row : rows) {
            EchoGauge g = atPhase(row[0], 2, 20);
            g.setStirrer(2, 300, 600, row[1], 20);
            g.shoot(1);
            E.due("phase " + row[0] + " and speed " + row[1], g.tank(8), row[2]);
            g.undo();
            E.due("phase behind undo", g.tank(8), row[0]);
            g.learn(1);
            E.due("phase " + row[0] + " and speed " + row[1] + ", learn()", g.tank(8), row[2]);
        }
        EchoGauge g = new EchoGauge();
        E.due("phase at first", g.tank(8), 0);
        g.shoot(360);
        E.due("phase behind 360 shots", g.tank(8), 0);
        g.shoot(1);
        E.due("phase behind 361 shots", g.tank(8), 47);
    }

    private static void angleWraps() {
        E.sentence("Blade k of n is at the angle (phase + floor(360 * k / n)) modulo 360.");
        for (int blades = 1; blades <= 6; blades++) {
            int step = 360 / blades;
            for (int blade = 0; blade < blades; blade++) {
                int wraps = 360 - step * blade;
                for (int phase = wraps - 1; phase <= wraps + 1; phase++) {
                    if (phase >= 0 && phase < 360) {
                        E.due("angle of " + blade + " of " + blades + " at " + phase,
                            atPhase(phase, blades, 0).angle(blade), phase == wraps - 1 ? 359 : phase - wraps);
                    }
                }
            }
        }
    }

    private static void beamIsClosed() {
        E.sentence("It is in the beam if its angle is at most the beam (0 to 90, 20 at first), or at least 360 "
            + "minus the beam.");
        E.due("beam at first", new EchoGauge().tank(10), 20);
        for (int beam : new int[] {0, 1, 20, 89, 90}) {
            for (int angle : new int[] {0, beam - 1, beam, beam + 1, 359 - beam, 360 - beam, 361 - beam, 180, 359}) {
                if (angle >= 0 && angle < 360) {
                    EchoGauge g = atPhase(angle, 1, beam);
                    g.shoot(1);
                    boolean inside = angle <= beam || angle >= 360 - beam;
                    E.due("beam " + beam + ", angle " + angle, g.echo(0, 0), inside ? BLADE : SURFACE);
                    E.due("beam " + beam + ", angle " + angle, g.gauge(7), inside ? 1 : 2);
                }
            }
        }
    }

    // ---- echoes

    private static void thingsAboveTheSurface() {
        E.sentence("(1) for each fixed thing whose distance is less than d: kind 0, its distance and strength;");
        for (int distance : new int[] {1499, 1500, 1501}) {
            EchoGauge g = new EchoGauge();
            g.addThing(distance, 50);
            g.shoot(1);
            if (distance < 1500) {
                echoesAre(g, THING, SURFACE, SECOND);
                echoIs(g, 0, THING, 1499, 50);
            } else {
                echoesAre(g, SURFACE, SECOND);
            }
        }
        EchoGauge g = new EchoGauge();
        g.addThing(0, 1);
        Edges.shootAt(g, 2000);
        echoesAre(g, SURFACE, SECOND);
        Edges.shootAt(g, 1999);
        echoesAre(g, THING, SURFACE, SECOND);
    }

    private static void bladesAboveTheSurface() {
        E.sentence("(2) for each blade in the beam whose distance is less than d: kind 1, its distance, the "
            + "strength 60;");
        int[][] rows = {{1699, BLADE}, {1700, SURFACE}, {1701, SURFACE}};
        for (int[] row : rows) {
            EchoGauge g = atPhase(0, 1, 0);
            Edges.shootAt(g, row[0]);
            E.due("echo of a blade at 300 with level " + row[0], g.echo(0, 0), row[1]);
            EchoGauge lower = atPhase(180, 2, 0);
            Edges.shootAt(lower, row[0] - 300);
            E.due("echo of a blade at 600 with level " + (row[0] - 300), lower.echo(0, 0), row[1]);
        }
    }

    private static void foamFromOneMillimeter() {
        E.sentence(FOAM_ECHO);
        EchoGauge g = new EchoGauge();
        g.shoot(1);
        echoesAre(g, SURFACE, SECOND);
        g.setFoam(1);
        g.shoot(1);
        echoesAre(g, FOAM, SURFACE, SECOND);
        echoIs(g, 0, FOAM, 1499, 70);
        g.setFoam(2);
        g.shoot(1);
        echoIs(g, 0, FOAM, 1498, 70);
    }

    private static void foamIsNotAboveTheGauge() {
        E.sentence(FOAM_ECHO);
        int[][] rows = {{1899, 1}, {1900, 0}, {1901, 0}, {2000, 0}};
        for (int[] row : rows) {
            EchoGauge g = new EchoGauge();
            g.setFoam(100);
            Edges.shootAt(g, row[0]);
            int foam = g.echo(0, 0) == FOAM ? 0 : 1;
            echoIs(g, foam, FOAM, row[1], 60);
        }
    }

    private static void foamStrength() {
        E.sentence(FOAM_ECHO);
        int[][] rows = {{9, 70}, {10, 69}, {11, 69}, {19, 69}, {20, 68}, {490, 21}, {499, 21}, {500, 20}};
        for (int[] row : rows) {
            EchoGauge g = new EchoGauge();
            g.setFoam(row[0]);
            g.shoot(1);
            echoIs(g, 0, FOAM, 1500 - row[0], row[1]);
        }
    }

    private static void surfaceStrength() {
        E.sentence(SURFACE_ECHO);
        int[][] rows = {{0, 80}, {4, 80}, {5, 79}, {6, 79}, {9, 79}, {10, 78}, {394, 2}, {395, 1}, {399, 1}, {400, 0},
            {401, 0}, {405, 0}, {500, 0}};
        for (int[] row : rows) {
            EchoGauge g = new EchoGauge();
            g.setFoam(row[0]);
            g.shoot(1);
            echoIs(g, row[0] > 0 ? 1 : 0, SURFACE, 1500, row[1]);
        }
    }

    private static void surfaceNeedsNoBladeInTheBeam() {
        E.sentence(SURFACE_ECHO);
        EchoGauge one = atPhase(0, 1, 0);
        one.shoot(1);
        echoesAre(one, BLADE);
        EchoGauge none = atPhase(1, 1, 0);
        none.shoot(1);
        echoesAre(none, SURFACE, SECOND);
        EchoGauge several = atPhase(30, 6, 90);
        several.shoot(1);
        echoesAre(several, BLADE, BLADE, BLADE, BLADE);
        EchoGauge lost = atPhase(0, 1, 0);
        lost.set(0, 100);
        lost.shoot(1);
        E.due("a lost echo of a blade hides the surface too", lost.gauge(7), 0);
        lost.set(0, 50);
        lost.setS(Edges.sThatDraws(49));
        lost.shoot(1);
        E.due("a lost echo of a blade hides the surface too", lost.gauge(7), 0);
    }

    private static void secondEchoIsHalf() {
        E.sentence(SECOND_ECHO);
        int[][] rows = {{0, 40}, {5, 39}, {10, 39}, {15, 38}, {390, 1}, {395, 0}, {400, 0}, {500, 0}};
        for (int[] row : rows) {
            EchoGauge g = new EchoGauge();
            g.setFoam(row[0]);
            g.shoot(1);
            echoIs(g, row[0] > 0 ? 2 : 1, SECOND, 3000, row[1]);
        }
        EchoGauge g = new EchoGauge();
        g.begin(10000);
        Edges.shootAt(g, 0);
        echoIs(g, 1, SECOND, 20000, 40);
        Edges.shootAt(g, 10000);
        echoIs(g, 1, SECOND, 0, 40);
    }

    private static void secondEchoComesWithTheSurface() {
        E.sentence(SECOND_ECHO);
        EchoGauge g = new EchoGauge();
        g.set(0, 39);
        g.shoot(1);
        echoesAre(g, SECOND);
        EchoGauge hidden = atPhase(0, 1, 0);
        hidden.shoot(1);
        echoesAre(hidden, BLADE);
    }

    // ---- chance

    private static boolean surfaceIsLost(int number, int loss) {
        EchoGauge g = new EchoGauge();
        g.set(0, loss);
        g.setS(Edges.sThatDraws(number));
        g.shoot(1);
        for (int i = 0; i < g.gauge(7); i++) {
            if (g.echo(i, 0) == SURFACE) {
                return false;
            }
        }
        return true;
    }

    private static void lossIsBelow() {
        E.sentence(LOSS);
        for (int number : new int[] {0, 1, 50, 98, 99}) {
            for (int loss = Math.max(0, number - 1); loss <= Math.min(100, number + 2); loss++) {
                E.due("number " + number + ", loss " + loss, surfaceIsLost(number, loss), number < loss);
            }
        }
    }

    private static void lossOfNoneAndAll() {
        E.sentence(LOSS);
        EchoGauge g = new EchoGauge();
        for (int shot = 0; shot < 200; shot++) {
            g.set(0, 0);
            g.shoot(1);
            E.due("echoes with loss 0", g.gauge(7), 2);
            g.set(0, 100);
            g.shoot(1);
            E.due("echoes with loss 100", g.gauge(7), 0);
        }
        EchoGauge most = new EchoGauge();
        most.set(0, 99);
        E.due("some are left with loss 99", most.shoot(500) > 0, true);
        EchoGauge least = new EchoGauge();
        least.set(0, 1);
        E.due("some are lost with loss 1", least.shoot(500) < 500, true);
    }

    private static void jitterDrawsOnlyIfGreaterThanZero() {
        E.sentence(JITTER);
        for (int jitter = 0; jitter <= 2; jitter++) {
            EchoGauge g = new EchoGauge();
            g.set(1, jitter);
            g.shoot(1);
            int s = 1;
            for (int i = 0; i < (jitter == 0 ? 2 : 4); i++) {
                s = Edges.nextS(s);
            }
            E.due("s behind two echoes with jitter " + jitter, g.tank(11), s);
        }
    }

    private static void jitterRange() {
        E.sentence(JITTER);
        for (int jitter : new int[] {1, 2, 19, 20}) {
            for (int number : new int[] {0, 1, jitter, 2 * jitter - 1, 2 * jitter}) {
                EchoGauge g = new EchoGauge();
                g.set(1, jitter);
                g.setS(Edges.sThatDrawsSecond(number, 2 * jitter + 1));
                g.shoot(1);
                E.due("jitter " + jitter + ", number " + number, g.echo(0, 1), 1500 + number - jitter);
            }
        }
    }

    private static void jitterNotBelowZero() {
        E.sentence(JITTER);
        for (int distance : new int[] {0, 4, 5, 6}) {
            EchoGauge g = new EchoGauge();
            g.addThing(distance, 50);
            g.set(1, 5);
            g.setS(Edges.sThatDrawsSecond(0, 11));
            g.shoot(1);
            E.due("thing at " + distance + " moved by -5", g.echo(0, 1), Math.max(0, distance - 5));
        }
    }

    private static void lostEchoesDrawNoJitter() {
        E.sentence("Then chance comes, for each of these echoes in this order: a number below 100 is drawn;");
        EchoGauge lost = new EchoGauge();
        lost.set(0, 100);
        lost.set(1, 20);
        lost.shoot(1);
        E.due("s behind two lost echoes", lost.tank(11), Edges.nextS(Edges.nextS(1)));
        EchoGauge none = atPhase(0, 1, 0);
        none.setS(1);
        none.shoot(1);
        E.due("s behind one echo", none.tank(11), Edges.nextS(1));
    }

    private static void numbersAreRoundedDown() {
        E.sentence(DRAW);
        E.due("s at first", new EchoGauge().tank(11), 1);
        int[][] rows = {{65535, 0}, {65536, 1}, {131071, 1}, {131072, 2}, {6553599, 99}, {6553600, 0}, {6553601, 0},
            {2147483647, 67}, {2147418112, 67}, {2147418111, 66}};
        for (int[] row : rows) {
            for (int loss = row[1]; loss <= row[1] + 1; loss++) {
                EchoGauge g = atPhase(0, 1, 0);
                g.set(0, loss);
                g.setS(Edges.sBefore(row[0]));
                g.shoot(1);
                E.due("s", g.tank(11), row[0]);
                E.due("echoes with s " + row[0] + " and loss " + loss, g.gauge(7), row[1] < loss ? 0 : 1);
            }
        }
    }

    private static void chanceWraps() {
        E.sentence(DRAW);
        int[][] rows = {{0, 12345}, {1, 1103527590}, {2, 59559187}, {2147483647, 1043980748}, {2147483646, 2087949151}};
        for (int[] row : rows) {
            EchoGauge g = atPhase(0, 1, 0);
            g.setS(row[0]);
            g.shoot(1);
            E.due("s behind " + row[0], g.tank(11), (1103515245L * row[0] + 12345L) % 2147483648L);
            E.due("s behind " + row[0], g.tank(11), row[1]);
        }
        EchoGauge g = atPhase(0, 1, 0);
        g.setS(Edges.sBefore(2147483647));
        g.shoot(1);
        E.due("the greatest s", g.tank(11), 2147483647);
        g.setS(Edges.sBefore(0));
        g.shoot(1);
        E.due("the least s", g.tank(11), 0);
    }

    // ---- order

    private static void orderByDistance() {
        E.sentence(ORDER);
        EchoGauge g = new EchoGauge();
        g.addThing(101, 90);
        g.addThing(100, 10);
        g.addThing(99, 10);
        g.addThing(1499, 10);
        g.shoot(1);
        int[] distances = {99, 100, 101, 1499, 1500, 3000};
        for (int i = 0; i < distances.length; i++) {
            E.due("distance of echo " + i, g.echo(i, 1), distances[i]);
        }
    }

    private static void orderByStrength() {
        E.sentence(ORDER);
        for (int strength : new int[] {59, 60, 61}) {
            EchoGauge g = atPhase(0, 1, 0);
            g.addThing(300, strength);
            g.shoot(1);
            echoIs(g, strength < 60 ? 1 : 0, THING, 300, strength);
            echoIs(g, strength < 60 ? 0 : 1, BLADE, 300, 60);
        }
        EchoGauge g = new EchoGauge();
        g.setFoam(9);
        Edges.shootAt(g, 2000);
        echoIs(g, 0, SURFACE, 0, 79);
        echoIs(g, 1, FOAM, 0, 70);
        echoIs(g, 2, SECOND, 0, 39);
    }

    private static void orderByKind() {
        E.sentence(ORDER);
        EchoGauge g = atPhase(0, 1, 0);
        g.setFoam(100);
        g.setLevel(1600);
        g.addThing(300, 60);
        g.addThing(300, 60);
        g.shoot(1);
        echoesAre(g, THING, THING, BLADE, FOAM);
        EchoGauge empty = new EchoGauge();
        empty.setFoam(500);
        Edges.shootAt(empty, 2000);
        echoesAre(empty, FOAM, SURFACE, SECOND);
        echoIs(empty, 1, SURFACE, 0, 0);
        echoIs(empty, 2, SECOND, 0, 0);
    }
}

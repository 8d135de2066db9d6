/** The boundaries of the values: promises 15 to 24, and of what is asked for ahead: promises 25 to 27. */
public final class ValueEdgeTest {
    private static final Edges E = new Edges();
    private static final String NEED = "The need of a distance is max(1, need - floor(distance * gain / 1000)), "
        + "with need (1 to 100, 20 at first) and gain (0 to 20, 2 at first).";
    private static final String MEAN = "Returns their sum, converted to double, divided by their number, "
        + "converted to double; -1.0 without picks.";
    private static final String TOLD_AFTER = "Returns the number (0 if one is told now); NONE if none is told "
        + "within most shots.";
    private static final String WORST_ERROR = "Returns the greatest difference between the level and the told "
        + "level behind each of some shots (0 without a shot behind which one is told).";
    private static final String BEST_MODE = "Returns the mode with which worstError() would be least.";
    private static final Edges.Maker[] MAKERS = {Edges::fresh, Edges::busy, Edges::full};

    public static void main(String[] args) {
        echoNumbers();
        echoValueNumbers();
        echoesEnd();
        echoesOfLearn();
        echoesOfTheLatestShot();
        mostEchoes();
        pickNumbers();
        picksEnd();
        isMaskedRange();
        needRange();
        needFalls();
        needIsAtLeastOne();
        thingNumbers();
        thingValueNumbers();
        angleNumbers();
        tankNumbers();
        settingNumbers();
        gaugeNumbers();
        gaugeWithoutATold();
        gaugeCountsShots();
        gaugeMedian();
        gaugeEchoes();
        meanOfNone();
        meanOfPicks();
        toldAfterRange();
        toldAfterNow();
        toldAfterMost();
        worstErrorRange();
        worstErrorWithoutATold();
        worstErrorIsNotNegative();
        worstErrorOfSomeShots();
        bestModeRange();
        bestModeOfSeveral();
        bestModeByOneMillimeter();
        questionsChangeNothing();
        E.end();
    }

    // ---- promise 15

    private static void echoNumbers() {
        E.sentence("Throws `IllegalArgumentException` if echo is negative, or what is out of range");
        for (int echo : new int[] {-1, -2, Integer.MIN_VALUE}) {
            for (int what : new int[] {-1, 0, 5, 6}) {
                E.refused("echo(" + echo + ", " + what + ")", Edges.ARGUMENT, g -> g.echo(echo, what));
            }
        }
        for (Edges.Maker maker : MAKERS) {
            for (int echo : new int[] {0, 1, Integer.MAX_VALUE}) {
                E.range("echo(" + echo + ", ..)", 0, 5, maker, (g, value) -> g.echo(echo, value));
            }
        }
    }

    private static void echoValueNumbers() {
        E.sentence("`what`: 0 kind, 1 distance, 2 strength, 3 1 if it was a candidate (ahead of the guard) or 0 "
            + "if not, 4 1 if it was dropped by the guard or 0 if not, 5 1 if it was picked or 0 if not (3 to "
            + "5: 0 for all echoes of learn())");
        EchoGauge g = new EchoGauge();
        g.set(4, 1);
        g.addThing(400, 50);
        g.addThing(700, 17);
        g.shoot(1);
        int[][] rows = {{0, 400, 50, 1, 1, 0}, {0, 700, 17, 0, 0, 0}, {3, 1500, 80, 1, 0, 1}, {4, 3000, 40, 0, 0, 0}};
        for (int echo = 0; echo < rows.length; echo++) {
            for (int what = 0; what < 6; what++) {
                E.due("echo(" + echo + ", " + what + ")", g.echo(echo, what), rows[echo][what]);
            }
        }
    }

    private static void echoesEnd() {
        E.sentence("Returns that value; NONE if there are not so many.");
        for (Edges.Maker maker : MAKERS) {
            EchoGauge g = maker.make();
            int count = g.gauge(7);
            for (int what = 0; what < 6; what++) {
                if (count > 0) {
                    E.due("the last echo's " + what, g.echo(count - 1, what) >= 0, true);
                }
                E.due("one echo behind, " + what, g.echo(count, what), -1);
                E.due("two echoes behind, " + what, g.echo(count + 1, what), -1);
                E.due("far behind, " + what, g.echo(Integer.MAX_VALUE, what), -1);
            }
        }
    }

    private static void echoesOfLearn() {
        E.sentence("(3 to 5: 0 for all echoes of learn())");
        EchoGauge g = new EchoGauge();
        g.set(4, 1);
        g.addThing(400, 50);
        g.shoot(1);
        E.due("candidate", g.echo(0, 3), 1);
        g.learn(1);
        for (int echo = 0; echo < 3; echo++) {
            for (int what = 3; what <= 5; what++) {
                E.due("echo(" + echo + ", " + what + ")", g.echo(echo, what), 0);
            }
        }
        E.due("echo(3, 3)", g.echo(3, 3), -1);
        E.due("echo(0, 1)", g.echo(0, 1), 400);
    }

    private static void echoesOfTheLatestShot() {
        E.sentence("Returns a value of an echo of the latest shot (of shoot() or learn()), in their order, "
            + "behind chance.");
        EchoGauge g = new EchoGauge();
        g.setFlow(1);
        g.shoot(3);
        E.due("the third shot", g.echo(0, 1), 1497);
        g.learn(1);
        E.due("the shot of learn()", g.echo(0, 1), 1496);
        g.toldAfter(500);
        g.worstError(200);
        E.due("no shot of a forecast", g.echo(0, 1), 1496);
        g.set(0, 100);
        g.shoot(1);
        E.due("no echo is left", g.echo(0, 1), -1);
    }

    private static void mostEchoes() {
        E.sentence("A shot has these echoes, in this order, each with a kind, a distance and a strength:");
        EchoGauge g = new EchoGauge();
        for (int i = 0; i < 6; i++) {
            g.addThing(10 * i, 50);
        }
        g.setFoam(100);
        g.shoot(1);
        E.due("six things, foam, surface and second echo", g.gauge(7), 9);
        g.setStirrer(0, 300, 600, 343, 0);
        g.shoot(1);
        E.due("phase", g.tank(8), 30);
        g.setStirrer(6, 300, 600, 0, 90);
        g.shoot(1);
        E.due("six things, four blades and foam", g.gauge(7), 11);
        E.due("the last one", g.echo(10, 0), 2);
        E.due("behind it", g.echo(11, 0), -1);
    }

    // ---- promise 16

    private static void pickNumbers() {
        E.sentence("Throws `IllegalArgumentException` if back is negative");
        for (int back : new int[] {-1, -2, Integer.MIN_VALUE}) {
            E.refused("pick(" + back + ")", Edges.ARGUMENT, g -> g.pick(back));
        }
        E.due("pick(0)", new EchoGauge().pick(0), -1);
    }

    private static void picksEnd() {
        E.sentence("Returns the picked distance; NONE if there is no such shot in the history, or it has no "
            + "pick.");
        for (int places = 1; places <= 9; places++) {
            EchoGauge g = new EchoGauge();
            g.set(6, places);
            g.shoot(12);
            E.due("the oldest of " + places, g.pick(places - 1), 1500);
            E.due("one behind " + places, g.pick(places), -1);
            E.due("two behind " + places, g.pick(places + 1), -1);
            E.due("far behind", g.pick(Integer.MAX_VALUE), -1);
        }
        EchoGauge g = new EchoGauge();
        Edges.shootAt(g, 2000);
        E.due("a picked distance of 0", g.pick(0), 0);
        g.set(0, 100);
        g.shoot(1);
        E.due("no pick", g.pick(0), -1);
        E.due("the one before", g.pick(1), 0);
        E.due("no shot", g.pick(2), -1);
    }

    // ---- promises 17 and 18

    private static void isMaskedRange() {
        E.sentence("Tells whether the bin of a distance is masked.");
        for (Edges.Maker maker : MAKERS) {
            E.range("isMasked", 0, 10000, maker, (g, value) -> g.isMasked(value) ? 1 : 0);
        }
        EchoGauge g = new EchoGauge();
        g.mask(20, true);
        g.mask(9980, true);
        int[][] rows = {{0, 0}, {19, 0}, {20, 1}, {39, 1}, {40, 0}, {9979, 0}, {9980, 1}, {9999, 1}, {10000, 0}};
        for (int[] row : rows) {
            E.due("isMasked(" + row[0] + ")", g.isMasked(row[0]) ? 1 : 0, row[1]);
        }
    }

    private static void needRange() {
        E.sentence("Returns the need of a distance.");
        for (Edges.Maker maker : MAKERS) {
            E.range("need", 0, 10000, maker, EchoGauge::need);
        }
    }

    private static void needFalls() {
        E.sentence(NEED);
        int[][] rows = {{0, 20}, {499, 20}, {500, 19}, {501, 19}, {999, 19}, {1000, 18}, {8999, 3}, {9000, 2}};
        EchoGauge g = new EchoGauge();
        for (int[] row : rows) {
            E.due("need(" + row[0] + ")", g.need(row[0]), row[1]);
        }
        g.set(2, 100);
        g.set(3, 20);
        E.due("need(49)", g.need(49), 100);
        E.due("need(50)", g.need(50), 99);
        E.due("need(51)", g.need(51), 99);
        g.set(3, 1);
        E.due("need(999)", g.need(999), 100);
        E.due("need(1000)", g.need(1000), 99);
        E.due("need(10000)", g.need(10000), 90);
        g.set(3, 0);
        E.due("need(10000) without gain", g.need(10000), 100);
    }

    private static void needIsAtLeastOne() {
        E.sentence(NEED);
        EchoGauge g = new EchoGauge();
        E.due("20 - 18", g.need(9499), 2);
        E.due("20 - 19", g.need(9500), 1);
        E.due("20 - 19", g.need(9999), 1);
        E.due("20 - 20", g.need(10000), 1);
        g.set(3, 20);
        E.due("20 - 18", g.need(949), 2);
        E.due("20 - 19", g.need(950), 1);
        E.due("20 - 20", g.need(1000), 1);
        E.due("20 - 21", g.need(1050), 1);
        E.due("20 - 200", g.need(10000), 1);
        g.set(2, 1);
        E.due("1 - 0", g.need(0), 1);
        E.due("1 - 1", g.need(50), 1);
    }

    // ---- promises 19 and 20

    private static EchoGauge withThings(int count) {
        EchoGauge g = new EchoGauge();
        for (int i = 0; i < count; i++) {
            g.addThing(i, i + 1);
        }
        return g;
    }

    private static void thingNumbers() {
        E.sentence("Throws `IndexOutOfBoundsException` if there is no such thing");
        for (int count = 0; count <= 6; count++) {
            int things = count;
            for (int thing : new int[] {-1, count, count + 1, Integer.MIN_VALUE, Integer.MAX_VALUE}) {
                for (int what : new int[] {-1, 0, 1, 2}) {
                    E.refused("thing(" + thing + ", " + what + ") of " + count, Edges.INDEX, () -> withThings(things),
                        g -> g.thing(thing, what));
                }
            }
            for (int thing = 0; thing < count; thing++) {
                E.due("distance of " + thing, withThings(count).thing(thing, 0), thing);
                E.due("strength of " + thing, withThings(count).thing(thing, 1), thing + 1);
            }
        }
        EchoGauge removed = withThings(6);
        removed.removeThing(2);
        E.due("the last one left", removed.thing(4, 0), 5);
        E.refused("the one that moved up", Edges.INDEX, () -> {
            EchoGauge g = withThings(6);
            g.removeThing(2);
            return g;
        }, g -> g.thing(5, 0));
    }

    private static void thingValueNumbers() {
        E.sentence("Throws `IllegalArgumentException` if what is out of range");
        for (int thing : new int[] {0, 2, 5}) {
            E.range("thing(" + thing + ", ..)", 0, 1, () -> withThings(6), (g, value) -> g.thing(thing, value));
        }
        E.range("thing(0, ..) of a busy one", 0, 1, Edges::busy, (g, value) -> g.thing(0, value));
    }

    private static EchoGauge withBlades(int count) {
        EchoGauge g = new EchoGauge();
        g.setStirrer(count, 300, 600, 47, 20);
        return g;
    }

    private static void angleNumbers() {
        E.sentence("Throws `IndexOutOfBoundsException` if there is no such blade");
        for (int count = 0; count <= 6; count++) {
            int blades = count;
            for (int blade : new int[] {-1, count, count + 1, Integer.MIN_VALUE, Integer.MAX_VALUE}) {
                E.refused("angle(" + blade + ") of " + count, Edges.INDEX, () -> withBlades(blades),
                    g -> g.angle(blade));
            }
            for (int blade = 0; blade < count; blade++) {
                E.due("angle(" + blade + ") of " + count, withBlades(count).angle(blade), 360 * blade / count);
            }
        }
        E.refused("angle(6) of a full one", Edges.INDEX, Edges::full, g -> g.angle(6));
        E.refused("angle(2) of a busy one", Edges.INDEX, Edges::busy, g -> g.angle(2));
    }

    // ---- promises 21 to 23

    private static void tankNumbers() {
        E.sentence("`what`: 0 H, 1 level, 2 flow, 3 foam, 4 fixed things, 5 blades, 6 A, 7 B, 8 phase, 9 speed, "
            + "10 beam, 11 s");
        for (Edges.Maker maker : MAKERS) {
            E.range("tank", 0, 11, maker, EchoGauge::tank);
        }
        EchoGauge g = new EchoGauge();
        g.begin(10000);
        g.setLevel(10000);
        g.setFlow(-200);
        g.setFoam(500);
        for (int i = 0; i < 6; i++) {
            g.addThing(1, 1);
        }
        g.setStirrer(6, 9999, 10000, 359, 90);
        g.shoot(1);
        g.setS(2147483647);
        int[] most = {10000, 9800, -200, 500, 6, 6, 9999, 10000, 359, 359, 90, 2147483647};
        for (int what = 0; what < 12; what++) {
            E.due("tank(" + what + ")", g.tank(what), most[what]);
        }
    }

    private static void settingNumbers() {
        E.sentence("Returns a setting.");
        for (Edges.Maker maker : MAKERS) {
            E.range("setting", 0, 11, maker, EchoGauge::setting);
        }
        EchoGauge g = new EchoGauge();
        int[] most = {100, 20, 100, 20, 1, 2, 9, 20, 99, 10000, 10000, 500};
        g.set(10, 10000);
        for (int what = 0; what < 12; what++) {
            g.set(what, most[what]);
        }
        for (int what = 0; what < 12; what++) {
            E.due("setting(" + what + ")", g.setting(what), most[what]);
        }
    }

    private static void gaugeNumbers() {
        E.sentence("Returns a value of the gauge.");
        for (Edges.Maker maker : MAKERS) {
            E.range("gauge", 0, 12, maker, EchoGauge::gauge);
        }
    }

    private static void gaugeWithoutATold() {
        E.sentence("2 told distance, 3 told level (2, 3: NONE if none is told)");
        EchoGauge g = Edges.direct();
        E.due("distance, none told", g.gauge(2), -1);
        E.due("level, none told", g.gauge(3), -1);
        Edges.shootAt(g, 2000);
        E.due("distance 0", g.gauge(2), 0);
        E.due("level H", g.gauge(3), 2000);
        Edges.shootAt(g, 0);
        E.due("distance H", g.gauge(2), 2000);
        E.due("level 0", g.gauge(3), 0);
        for (int depth : new int[] {500, 501, 9999, 10000}) {
            for (int level : new int[] {0, 1, depth - 1, depth}) {
                EchoGauge deep = new EchoGauge();
                deep.begin(depth);
                deep.set(6, 1);
                Edges.shootAt(deep, level);
                E.due("distance in " + depth, deep.gauge(2), depth - level);
                E.due("level in " + depth, deep.gauge(3), level);
            }
        }
    }

    private static void gaugeCountsShots() {
        E.sentence("0 shots so far (without those of learn()), 1 those that had a pick,");
        EchoGauge g = new EchoGauge();
        g.learn(50);
        E.due("shots behind learn()", g.gauge(0), 0);
        g.shoot(1);
        g.set(0, 100);
        g.shoot(500);
        g.learn(1);
        E.due("shots", g.gauge(0), 501);
        E.due("shots that had a pick", g.gauge(1), 1);
        g.undo();
        g.undo();
        E.due("shots behind undo", g.gauge(0), 1);
    }

    private static void gaugeMedian() {
        E.sentence("10 median (NONE if fewer than half of the N places have picks)");
        EchoGauge g = new EchoGauge();
        E.due("median without shots", g.gauge(10), -1);
        g.shoot(2);
        E.due("2 of 5", g.gauge(10), -1);
        g.set(6, 4);
        E.due("2 of 4", g.gauge(10), 1500);
        g.set(6, 5);
        g.shoot(1);
        E.due("3 of 5", g.gauge(10), 1500);
        g.set(6, 6);
        E.due("3 of 6", g.gauge(10), 1500);
        g.set(6, 7);
        E.due("3 of 7", g.gauge(10), -1);
        EchoGauge deep = Edges.direct();
        Edges.shootAt(deep, 2000);
        E.due("a median of 0", deep.gauge(10), 0);
    }

    private static void gaugeEchoes() {
        E.sentence("7 echoes of the latest shot, 8 shots in the history, 9 picks in the history,");
        EchoGauge g = new EchoGauge();
        E.due("echoes without shots", g.gauge(7), 0);
        E.due("shots", g.gauge(8), 0);
        E.due("picks", g.gauge(9), 0);
        g.learn(1);
        E.due("echoes of learn()", g.gauge(7), 2);
        E.due("shots behind learn()", g.gauge(8), 0);
        g.set(0, 100);
        g.shoot(1);
        E.due("echoes, all lost", g.gauge(7), 0);
        E.due("shots", g.gauge(8), 1);
        E.due("picks", g.gauge(9), 0);
        g.set(0, 0);
        g.shoot(4);
        E.due("shots", g.gauge(8), 5);
        E.due("picks", g.gauge(9), 4);
        g.shoot(1);
        E.due("shots", g.gauge(8), 5);
        E.due("picks", g.gauge(9), 5);
    }

    // ---- promise 24

    private static void meanIs(EchoGauge g, double mean) {
        E.check.due("meanPick", g.meanPick(), mean);
    }

    private static void meanOfNone() {
        E.sentence(MEAN);
        EchoGauge g = new EchoGauge();
        meanIs(g, -1.0);
        g.set(8, 99);
        g.set(0, 100);
        g.shoot(9);
        meanIs(g, -1.0);
        g.set(0, 0);
        Edges.shootAt(g, 2000);
        meanIs(g, 0.0);
        g.set(0, 100);
        g.shoot(4);
        meanIs(g, 0.0);
        g.shoot(1);
        meanIs(g, -1.0);
    }

    private static void meanOfPicks() {
        E.sentence(MEAN);
        EchoGauge g = new EchoGauge();
        g.begin(10000);
        g.set(6, 9);
        int sum = 0;
        for (int i = 1; i <= 9; i++) {
            Edges.shootAt(g, i % 2 == 0 ? 0 : i);
            sum += i % 2 == 0 ? 10000 : 10000 - i;
            meanIs(g, (double) sum / (double) i);
        }
        Edges.shootAt(g, 0);
        meanIs(g, (sum - 9999 + 10000) / 9.0);
        g.set(6, 1);
        meanIs(g, 10000.0);
    }

    // ---- promise 25

    private static void toldAfterRange() {
        E.sentence("`most`: 0 to 500");
        for (Edges.Maker maker : MAKERS) {
            E.range("toldAfter", 0, 500, maker, EchoGauge::toldAfter);
        }
    }

    private static void toldAfterNow() {
        E.sentence(TOLD_AFTER);
        EchoGauge g = new EchoGauge();
        E.due("none now", g.toldAfter(0), -1);
        g.shoot(2);
        E.due("none now", g.toldAfter(0), -1);
        E.due("with the next one", g.toldAfter(1), 1);
        g.shoot(1);
        E.due("now", g.toldAfter(0), 0);
        E.due("now", g.toldAfter(500), 0);
        g.set(8, 1);
        g.set(0, 100);
        E.due("now, though it would be lost", g.toldAfter(500), 0);
    }

    /** The surface rises through masked bins and leaves them with the last of so many shots. */
    private static EchoGauge toldBehind(int shots) {
        EchoGauge g = new EchoGauge();
        g.begin(1100);
        g.set(6, 1);
        g.setLevel(1100 - 579 - shots);
        g.setFlow(1);
        for (int distance = 580; distance < 579 + shots + 20; distance += 20) {
            g.mask(distance, true);
        }
        return g;
    }

    private static void toldAfterMost() {
        E.sentence(TOLD_AFTER);
        for (int shots : new int[] {1, 2, 3, 100, 498, 499, 500}) {
            EchoGauge g = toldBehind(shots);
            E.due(shots + " within one fewer", g.toldAfter(shots - 1), -1);
            E.due(shots + " within as many", g.toldAfter(shots), shots);
            E.due(shots + " within one more", g.toldAfter(Math.min(500, shots + 1)), shots);
            E.due(shots + " within 500", g.toldAfter(500), shots);
            E.due("shots that had a pick", g.shoot(shots), 1);
            E.due("told distance", g.gauge(2), 579);
        }
        E.due("501 within 500", toldBehind(501).toldAfter(500), -1);
    }

    // ---- promises 26 and 27

    private static void worstErrorRange() {
        E.sentence(WORST_ERROR);
        for (Edges.Maker maker : MAKERS) {
            E.range("worstError", 1, 200, maker, EchoGauge::worstError);
        }
    }

    private static void worstErrorWithoutATold() {
        E.sentence(WORST_ERROR);
        EchoGauge g = new EchoGauge();
        g.setFoam(7);
        E.due("none told", g.worstError(1), 0);
        E.due("none told", g.worstError(2), 0);
        E.due("told with the third", g.worstError(3), 7);
        EchoGauge lost = Edges.direct();
        lost.shoot(1);
        lost.setLevel(900);
        lost.set(0, 100);
        lost.set(8, 1);
        E.due("told now, but behind no shot", lost.worstError(200), 0);
        lost.set(8, 2);
        E.due("told behind one shot", lost.worstError(200), 400);
    }

    private static void worstErrorIsNotNegative() {
        E.sentence("Returns the greatest difference, not negative.");
        for (int level : new int[] {0, 499, 500, 501, 2000}) {
            EchoGauge g = Edges.direct();
            g.shoot(1);
            g.set(0, 100);
            g.setLevel(level);
            E.due("told 500, level " + level, g.worstError(1), Math.abs(level - 500));
        }
        EchoGauge whole = Edges.direct();
        whole.begin(10000);
        whole.set(6, 1);
        Edges.shootAt(whole, 0);
        whole.set(0, 100);
        whole.setLevel(10000);
        E.due("told 0, level H", whole.worstError(1), 10000);
    }

    private static void worstErrorOfSomeShots() {
        E.sentence(WORST_ERROR);
        EchoGauge g = Edges.direct();
        g.shoot(1);
        g.set(0, 100);
        g.set(8, 99);
        g.setFlow(1);
        for (int shots : new int[] {1, 2, 97, 98, 99, 100, 200}) {
            E.due("told for 98 shots, behind " + shots, g.worstError(shots), Math.min(98, shots));
        }
        EchoGauge nearer = Edges.direct();
        Edges.shootAt(nearer, 400);
        nearer.set(7, 4);
        nearer.setLevel(500);
        E.due("the first is the worst", nearer.worstError(1), 75);
        E.due("the first is the worst", nearer.worstError(200), 75);
    }

    private static void bestModeRange() {
        E.sentence(BEST_MODE);
        for (Edges.Maker maker : MAKERS) {
            E.range("bestMode", 1, 200, maker, EchoGauge::bestMode);
        }
    }

    private static void bestModeOfSeveral() {
        E.sentence("Returns the mode, of several the lowest one.");
        for (int mode = 0; mode <= 2; mode++) {
            EchoGauge g = new EchoGauge();
            g.set(5, mode);
            E.due("all alike", g.bestMode(1), 0);
            E.due("all alike", g.bestMode(200), 0);
            g.addThing(400, 50);
            E.due("none told within two shots", g.bestMode(2), 0);
            E.due("1 alone is best, without a told one", g.bestMode(3), 1);
        }
        EchoGauge told = Edges.direct();
        told.shoot(1);
        told.addThing(400, 50);
        E.due("1 and 2 are alike", told.bestMode(1), 1);
        told.addThing(500, 90);
        E.due("2 alone is best", told.bestMode(1), 2);
        told.set(5, 2);
        E.due("2 alone is best", told.bestMode(200), 2);
        EchoGauge off = Edges.direct();
        Edges.shootAt(off, 1600);
        off.setLevel(500);
        off.addThing(400, 90);
        E.due("0, 1 and 2 are alike", off.bestMode(1), 0);
    }

    /** Things are picked by their modes: the first, the strongest, and the one nearest to what is told. */
    private static int bestOf(int first, int strongest, int nearest) {
        EchoGauge g = Edges.direct();
        Edges.shootAt(g, 2000 - nearest);
        g.addThing(first, 40);
        g.addThing(strongest, 90);
        g.addThing(nearest, 40);
        g.setLevel(500);
        int mode = g.bestMode(1);
        int[] errors = {1500 - first, 1500 - strongest, 1500 - nearest};
        for (int i = 0; i <= 2; i++) {
            g.set(5, i);
            E.due("worstError with mode " + i, g.worstError(1), errors[i]);
        }
        return mode;
    }

    private static void bestModeByOneMillimeter() {
        E.sentence(BEST_MODE);
        E.due("the strongest by one", bestOf(700, 1001, 1000), 1);
        E.due("as good, the lower one", bestOf(700, 1000, 1000), 1);
        E.due("the nearest by one", bestOf(700, 999, 1000), 2);
        E.due("the first and the nearest", bestOf(700, 900, 700), 1);
        E.due("all three", bestOf(700, 700, 700), 0);
    }

    // ---- what changes nothing

    private static void questionsChangeNothing() {
        E.sentence("Ahead of the calls `toldAfter`, `worstError`, `bestMode` the interface says: ---- what if, "
            + "which changes nothing.");
        for (int shots : new int[] {0, 1, 499, 500}) {
            E.changesNothing("toldAfter(" + shots + ")", g -> g.toldAfter(shots));
        }
        for (int shots : new int[] {1, 2, 199, 200}) {
            E.changesNothing("worstError(" + shots + ")", g -> g.worstError(shots));
            E.changesNothing("bestMode(" + shots + ")", g -> g.bestMode(shots));
        }
        E.sentence("Ahead of the calls `echo`, `pick`, `isMasked`, `need`, `thing`, `angle`, `tank`, `setting`, "
            + "`gauge`, `meanPick` the interface says: ---- values.");
        E.changesNothing("echo", g -> g.echo(0, 0) + g.echo(99, 5));
        E.changesNothing("pick", g -> g.pick(0) + g.pick(9));
        E.changesNothing("isMasked", g -> g.isMasked(0) || g.isMasked(10000) ? 1 : 0);
        E.changesNothing("need", g -> g.need(0) + g.need(10000));
        E.changesNothing("tank, setting and gauge", g -> Edges.values(g).size());
        E.changesNothing("meanPick", g -> (long) g.meanPick());
        E.changesNothing("digest", EchoGauge::digest);
    }
}

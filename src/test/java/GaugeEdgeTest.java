/** The boundaries of the gauge: promises 9 to 14, and the terms "LOOKING AT ECHOES" and "HISTORY AND LEVEL". */
public final class GaugeEdgeTest {
    private static final Edges E = new Edges();
    private static final String SMALLER_N = "a smaller N drops the oldest shots of the history; all else is "
        + "looked at with the next shot";
    private static final String LEARNED_BINS = "and masks the bins of all their echoes of the kinds 0 and 1 "
        + "that are left behind chance, and whose distance is at most H.";
    private static final String CANDIDATE = "An echo is a candidate if its distance is at most H, its bin is "
        + "not masked, and its strength is at least the need of its distance.";
    private static final String TWO_SHOTS = "unless each of the latest two shots before this one (of shoot() "
        + "alone, since the gauge was begun; none counts as without candidates) had a candidate,";
    private static final String NEAR_CANDIDATE = "had a candidate, ahead of dropping and as it was looked at "
        + "then, whose distance differs from its by at most 15.";
    private static final String STRONGEST_OR_NEAREST = "1 the strongest one, 2 the one nearest to the told "
        + "distance (or the first one, if none is told); of several of these, the first one in their order.";
    private static final String HALF = "If at least half of the N places have picks (2 * picks >= N), let m be "
        + "the median:";
    private static final String MEDIAN = "of the picked distances of the history in ascending order, with p of "
        + "them, the one with the index floor((p - 1) / 2).";
    private static final String NONE_TOLD_ANY_MORE = "no distance is told any more, and the history has no "
        + "picks (its shots stay as shots without one).";
    private static final String MARGINS = "otherwise a low alarm ends if the told level is above low plus "
        + "margin, a high one if it is below high minus margin (then 0);";
    private static final int LOSS = 0;
    private static final int JITTER = 1;
    private static final int NEED = 2;
    private static final int GAIN = 3;
    private static final int GUARD = 4;
    private static final int MODE = 5;
    private static final int PLACES = 6;
    private static final int SMOOTHING = 7;
    private static final int PATIENCE = 8;
    private static final int LOW = 9;
    private static final int HIGH = 10;
    private static final int MARGIN = 11;
    private static final int[] LEAST = {0, 0, 1, 0, 0, 0, 1, 1, 1, 0, 200, 0};
    private static final int[] MOST = {100, 20, 100, 20, 1, 2, 9, 20, 99, 1800, 10000, 500};
    private static final int[] FIRST = {0, 0, 20, 2, 0, 0, 5, 4, 10, 200, 1800, 20};

    public static void main(String[] args) {
        settingNumbers();
        settingRanges();
        setAnswersThePreviousValue();
        lowLimitIsAtMostTheHighOne();
        fewerPlacesDropTheOldest();
        theRestIsLookedAtWithTheNextShot();
        sRange();
        maskRange();
        masksAreBins();
        everyBinCanBeMasked();
        learnRange();
        learnMasksUpToTheDepth();
        learnMasksThingsAndBladesAlone();
        learnMasksWhatIsLeft();
        learnCountsForNothing();
        forgetUnmasksAll();
        shootRange();
        shootCountsPicks();
        candidatesUpToTheDepth();
        candidatesFromTheNeedOn();
        candidatesInNoMaskedBin();
        guardZone();
        guardZoneIsOnAlsoWithoutBlades();
        guardIsOffAtFirst();
        guardWantsTwoShots();
        guardWantsEachOfTwoShots();
        guardAtTheTop();
        guardDistance();
        guardLooksAheadOfDropping();
        guardKnowsNoShotsOfLearn();
        guardKnowsNoShotsBeforeBegin();
        modeFirst();
        modeStrongest();
        modeNearest();
        noCandidateNoPick();
        placesOfTheHistory();
        halfOfThePlaces();
        halfOfThePlacesWithFewShots();
        medianIndex();
        medianOfEqualPicks();
        firstMedianIsTold();
        smoothingSteps();
        missesEndWithAMedian();
        patience();
        patienceEmptiesTheHistory();
        patienceTakesTheLatestPickToo();
        patienceThatIsPassed();
        lowAlarm();
        highAlarm();
        lowComesBeforeHigh();
        marginOfTheLowAlarm();
        marginOfTheHighAlarm();
        alarmWithoutALevel();
        alarmsThatBegan();
        E.end();
    }

    // ---- promise 9

    private static void settingNumbers() {
        E.sentence("Throws `IllegalArgumentException` if what or value is out of range, or the low limit would "
            + "be above the high one");
        for (int what : new int[] {-1, 12, 13, Integer.MIN_VALUE, Integer.MAX_VALUE}) {
            E.refused("set(" + what + ", 1)", Edges.ARGUMENT, g -> g.set(what, 1));
            E.refused("set(" + what + ", -1)", Edges.ARGUMENT, g -> g.set(what, -1));
        }
        EchoGauge g = new EchoGauge();
        E.due("the first setting", g.set(0, 1), 0);
        E.due("the last setting", g.set(11, 1), 20);
    }

    private static void settingRanges() {
        E.sentence("`what`: 0 loss, 1 jitter, 2 need, 3 gain, 4 guard (0 off, 1 on), 5 mode, 6 N, 7 smoothing, "
            + "8 patience, 9 low limit, 10 high limit, 11 margin");
        Edges.Maker[] makers = {Edges::fresh, Edges::busy, Edges::full};
        for (Edges.Maker maker : makers) {
            for (int what = 0; what < 12; what++) {
                int setting = what;
                E.range("set(" + what + ", ..)", LEAST[what], MOST[what], maker, (g, value) -> g.set(setting, value));
            }
        }
    }

    private static void setAnswersThePreviousValue() {
        E.sentence("Returns the previous value (a smaller N drops the oldest shots of the history; all else is "
            + "looked at with the next shot).");
        for (int what = 0; what < 12; what++) {
            EchoGauge g = new EchoGauge();
            int previous = FIRST[what];
            for (int value : new int[] {MOST[what], LEAST[what], LEAST[what] + 1, MOST[what] - 1, MOST[what]}) {
                E.due("set(" + what + ", " + value + ")", g.set(what, value), previous);
                E.due("setting(" + what + ")", g.setting(what), value);
                previous = value;
            }
            for (int other = 0; other < 12; other++) {
                E.due("setting(" + other + ")", g.setting(other), other == what ? MOST[what] : FIRST[other]);
            }
        }
    }

    private static EchoGauge withLimits(int low, int high) {
        EchoGauge g = Edges.direct();
        g.set(LOW, 0);
        g.set(HIGH, high);
        g.set(LOW, low);
        return g;
    }

    private static void lowLimitIsAtMostTheHighOne() {
        E.sentence("There is a low and a high alarm limit (0 to 10000, low at most high; 200 and 1800 at "
            + "first), and a margin (0 to 500, 20 at first).");
        int[][] limits = {{0, 0}, {0, 1}, {700, 700}, {700, 701}, {10000, 10000}, {9999, 10000}, {0, 10000}};
        for (int[] pair : limits) {
            String name = " with " + pair[0] + " and " + pair[1];
            E.range("low limit" + name, 0, pair[1], () -> withLimits(pair[0], pair[1]), (g, v) -> g.set(LOW, v));
            E.range("high limit" + name, pair[0], 10000, () -> withLimits(pair[0], pair[1]), (g, v) -> g.set(HIGH, v));
        }
        E.range("low limit at first", 0, 1800, Edges::fresh, (g, value) -> g.set(LOW, value));
        E.range("high limit at first", 200, 10000, Edges::fresh, (g, value) -> g.set(HIGH, value));
    }

    /** Nine shots at the levels 101 to 109, the latest one last, with as many places. */
    private static EchoGauge withNineShots() {
        EchoGauge g = new EchoGauge();
        g.set(PLACES, 9);
        for (int level = 101; level <= 109; level++) {
            Edges.shootAt(g, level);
        }
        return g;
    }

    private static void fewerPlacesDropTheOldest() {
        E.sentence(SMALLER_N);
        for (int places = 1; places <= 9; places++) {
            EchoGauge g = withNineShots();
            E.due("set", g.set(PLACES, places), 9);
            E.due("shots in the history", g.gauge(8), places);
            E.due("picks in the history", g.gauge(9), places);
            for (int back = 0; back < 9; back++) {
                E.due("pick(" + back + ") with " + places, g.pick(back), back < places ? 1891 + back : -1);
            }
            g.set(PLACES, 9);
            E.due("the dropped ones stay away", g.gauge(8), places);
            for (int back = places; back < 9; back++) {
                E.due("pick(" + back + ") behind " + places, g.pick(back), -1);
            }
            Edges.shootAt(g, 110);
            E.due("shots in the history", g.gauge(8), Math.min(9, places + 1));
            E.due("pick(0)", g.pick(0), 1890);
            E.due("the oldest", g.pick(Math.min(8, places)), 1890 + Math.min(8, places));
        }
        EchoGauge few = new EchoGauge();
        few.shoot(2);
        few.set(PLACES, 2);
        E.due("as many places as shots", few.gauge(8), 2);
        few.set(PLACES, 3);
        E.due("one place more", few.gauge(8), 2);
        few.set(PLACES, 1);
        E.due("one place less", few.gauge(8), 1);
    }

    private static void theRestIsLookedAtWithTheNextShot() {
        E.sentence(SMALLER_N);
        EchoGauge g = withNineShots();
        Edges.shootAt(g, 500);
        int told = g.gauge(2);
        int alarm = g.gauge(5);
        g.set(PLACES, 1);
        E.due("told", g.gauge(2), told);
        g.set(SMOOTHING, 1);
        E.due("told", g.gauge(2), told);
        g.set(HIGH, 300);
        g.set(LOW, 300);
        E.due("alarm", g.gauge(5), alarm);
        g.set(NEED, 100);
        E.due("candidate", g.echo(0, 3), 1);
        E.due("misses", g.gauge(4), 0);
        g.set(PATIENCE, 1);
        E.due("told", g.gauge(2), told);
        g.shoot(1);
        E.due("candidate", g.echo(0, 3), 0);
        E.due("none told", g.gauge(2), -1);
    }

    // ---- promise 10

    private static void sRange() {
        E.sentence("`value`: 0 to 2147483647");
        for (int value : new int[] {-1, -2, -2147483647, Integer.MIN_VALUE}) {
            E.refused("setS(" + value + ")", Edges.ARGUMENT, g -> g.setS(value));
        }
        EchoGauge g = new EchoGauge();
        int previous = 1;
        for (int value : new int[] {0, 1, 2147483646, 2147483647, 0}) {
            E.due("setS(" + value + ")", g.setS(value), previous);
            E.due("s", g.tank(11), value);
            previous = value;
        }
    }

    // ---- promise 11

    private static void maskRange() {
        E.sentence("`distance`: 0 to 10000; the bin of this distance");
        Edges.Maker[] makers = {Edges::fresh, Edges::busy, Edges::full};
        for (Edges.Maker maker : makers) {
            E.range("mask(.., true)", 0, 10000, maker, (g, value) -> g.mask(value, true));
            E.range("mask(.., false)", 0, 10000, maker, (g, value) -> g.mask(value, false));
        }
        EchoGauge shallow = new EchoGauge();
        shallow.begin(500);
        E.due("also behind H", shallow.mask(10000, true), 0);
        E.due("also behind H", shallow.mask(10000, false), 1);
    }

    private static void masksAreBins() {
        E.sentence("Distances are in bins: the bin of a distance is floor(distance / 20).");
        int[] starts = {0, 20, 620, 640, 1280, 9980, 10000};
        for (int start : starts) {
            for (int inBin : new int[] {0, 1, 18, 19}) {
                int distance = Math.min(10000, start + inBin);
                EchoGauge g = new EchoGauge();
                E.due("mask(" + distance + ")", g.mask(distance, true), 0);
                E.due("mask again", g.mask(start, true), 1);
                E.due("masked bins", g.gauge(6), 1);
                E.due("the bin's start", g.isMasked(start), true);
                E.due("the bin's end", g.isMasked(Math.min(10000, start + 19)), true);
                if (start > 0) {
                    E.due("ahead of the bin", g.isMasked(start - 1), false);
                }
                if (start < 10000) {
                    E.due("behind the bin", g.isMasked(start + 20), false);
                }
                E.due("unmask", g.mask(start, false), 1);
                E.due("unmask again", g.mask(distance, false), 0);
                E.due("masked bins", g.gauge(6), 0);
            }
        }
    }

    private static void everyBinCanBeMasked() {
        E.sentence("Bins can be masked.");
        for (int bin = 0; bin <= 500; bin++) {
            EchoGauge g = new EchoGauge();
            E.due("mask of bin " + bin, g.mask(20 * bin, true), 0);
            E.due("bin " + bin, g.isMasked(20 * bin), true);
            E.due("the bin ahead of " + bin, bin > 0 && g.isMasked(20 * bin - 1), false);
            E.due("the bin behind " + bin, bin < 500 && g.isMasked(20 * bin + 20), false);
            E.due("masked bins", g.forget(), 1);
            E.due("bin " + bin, g.isMasked(20 * bin), false);
        }
    }

    // ---- promise 12

    private static void learnRange() {
        E.sentence("`shots`: 1 to 50");
        Edges.Maker[] makers = {Edges::fresh, Edges::busy, Edges::full};
        for (Edges.Maker maker : makers) {
            E.range("learn", 1, 50, maker, EchoGauge::learn);
        }
        for (int shots : new int[] {1, 2, 49, 50}) {
            EchoGauge g = new EchoGauge();
            g.learn(shots);
            E.due("phase behind learn(" + shots + ")", g.tank(8), 47 * shots % 360);
        }
    }

    private static void learnMasksUpToTheDepth() {
        E.sentence(LEARNED_BINS);
        for (int depth : new int[] {500, 519, 520, 10000}) {
            for (int number = 0; number <= 2; number++) {
                EchoGauge g = new EchoGauge();
                g.begin(depth);
                g.setLevel(0);
                g.addThing(depth - 1, 50);
                g.set(JITTER, 2);
                g.setS(Edges.sThatDrawsSecond(number + 2, 5));
                int learned = g.learn(1);
                int distance = depth - 1 + number;
                E.due("thing at H - 1 moved by " + number + " in " + depth, learned, distance <= depth ? 1 : 0);
                if (distance <= depth) {
                    E.due("its bin", g.isMasked(distance), true);
                }
            }
        }
    }

    private static void learnMasksThingsAndBladesAlone() {
        E.sentence(LEARNED_BINS);
        EchoGauge open = new EchoGauge();
        open.setFoam(100);
        open.setLevel(1800);
        E.due("foam, surface and second echo", open.learn(50), 0);
        open.addThing(150, 1);
        E.due("a thing too", open.learn(1), 1);
        E.due("the thing", open.isMasked(150), true);
        EchoGauge stirred = new EchoGauge();
        stirred.setStirrer(1, 300, 600, 0, 0);
        E.due("a blade too", stirred.learn(1), 1);
        E.due("the blade", stirred.isMasked(300), true);
    }

    private static void learnMasksWhatIsLeft() {
        E.sentence(LEARNED_BINS);
        for (int loss = 50; loss <= 51; loss++) {
            EchoGauge g = new EchoGauge();
            g.addThing(400, 50);
            g.set(LOSS, loss);
            g.setS(Edges.sThatDraws(50));
            E.due("number 50, loss " + loss, g.learn(1), loss == 50 ? 1 : 0);
        }
        EchoGauge moved = new EchoGauge();
        moved.addThing(400, 50);
        moved.set(JITTER, 1);
        moved.setS(Edges.sThatDrawsSecond(0, 3));
        moved.learn(1);
        E.due("as it was moved", moved.isMasked(399), true);
        E.due("as it was moved", moved.isMasked(400), false);
    }

    private static void learnCountsForNothing() {
        E.sentence("takes some shots (with flow, phase and chance; they are not looked at, and do not count for "
            + "the history)");
        EchoGauge g = Edges.direct();
        Edges.shootAt(g, 500);
        Edges.shootAt(g, 700);
        g.setFlow(10);
        int s = g.tank(11);
        g.learn(50);
        int[] gauge = {2, 2, 1300, 700, 0, 0, 0, 2, 1, 1, 1300, 0, 0};
        for (int what = 0; what < gauge.length; what++) {
            E.due("gauge(" + what + ")", g.gauge(what), gauge[what]);
        }
        E.due("level", g.tank(1), 1200);
        E.due("phase", g.tank(8), 47 * 52 % 360);
        for (int i = 0; i < 100; i++) {
            s = Edges.nextS(s);
        }
        E.due("s", g.tank(11), s);
    }

    // ---- promise 13

    private static void forgetUnmasksAll() {
        E.sentence("Returns the number of bins that were masked.");
        EchoGauge g = new EchoGauge();
        E.due("forget none", g.forget(), 0);
        g.mask(0, true);
        E.due("forget the first", g.forget(), 1);
        g.mask(10000, true);
        E.due("forget the last", g.forget(), 1);
        EchoGauge all = new EchoGauge();
        for (int bin = 0; bin <= 500; bin++) {
            all.mask(20 * bin, true);
        }
        E.due("bins 0 to 500", all.gauge(6), 501);
        E.due("forget all", all.forget(), 501);
        E.due("the first", all.isMasked(0), false);
        E.due("the last", all.isMasked(10000), false);
        all.undo();
        E.due("bins behind undo", all.gauge(6), 501);
    }

    // ---- promise 14

    private static void shootRange() {
        E.sentence("`shots`: 1 to 500");
        Edges.Maker[] makers = {Edges::fresh, Edges::busy, Edges::full};
        for (Edges.Maker maker : makers) {
            E.range("shoot", 1, 500, maker, EchoGauge::shoot);
        }
        for (int shots : new int[] {1, 2, 499, 500}) {
            EchoGauge g = new EchoGauge();
            E.due("shoot", g.shoot(shots), shots);
            E.due("shots", g.gauge(0), shots);
        }
    }

    private static void shootCountsPicks() {
        E.sentence("Returns the number of these that had a pick.");
        EchoGauge g = new EchoGauge();
        g.mask(1490, true);
        g.setFlow(5);
        E.due("at 1495, 1490, 1485, 1480 masked, then 1475", g.shoot(5), 1);
        E.due("at 1470 to 1455", g.shoot(4), 4);
        g.set(LOSS, 100);
        E.due("all lost", g.shoot(500), 0);
        E.due("shots", g.gauge(0), 509);
        E.due("shots that had a pick", g.gauge(1), 5);
    }

    // ---- looking at echoes

    private static void candidatesUpToTheDepth() {
        E.sentence(CANDIDATE);
        int[][] rows = {{2000, 1001, 0}, {2000, 1000, 1}, {2000, 999, 1}, {501, 251, 0}, {501, 250, 1},
            {10000, 5000, 1}, {10000, 5001, 0}};
        for (int[] row : rows) {
            EchoGauge g = new EchoGauge();
            g.begin(row[0]);
            Edges.shootAt(g, row[0] - row[1]);
            E.due("second echo at " + 2 * row[1] + " of " + row[0], g.echo(1, 3), row[2]);
        }
        for (int number = 0; number <= 2; number++) {
            EchoGauge g = new EchoGauge();
            g.set(JITTER, 1);
            g.setLevel(0);
            g.setS(Edges.sThatDrawsSecond(number, 3));
            g.shoot(1);
            E.due("surface at " + (1999 + number), g.echo(0, 3), number < 2 ? 1 : 0);
            E.due("pick", g.pick(0), number < 2 ? 1999 + number : -1);
        }
    }

    private static void candidatesFromTheNeedOn() {
        E.sentence(CANDIDATE);
        int[][] rows = {{499, 19, 0}, {499, 20, 1}, {499, 21, 1}, {500, 18, 0}, {500, 19, 1}, {999, 18, 0},
            {1000, 18, 1}};
        for (int[] row : rows) {
            EchoGauge g = new EchoGauge();
            g.addThing(row[0], row[1]);
            g.shoot(1);
            E.due("thing at " + row[0] + " of " + row[1], g.echo(0, 3), row[2]);
            E.due("pick", g.pick(0), row[2] == 1 ? row[0] : 1500);
        }
        EchoGauge least = new EchoGauge();
        least.set(NEED, 1);
        least.addThing(400, 1);
        least.shoot(1);
        E.due("strength 1 with need 1", least.echo(0, 3), 1);
        least.set(NEED, 2);
        least.shoot(1);
        E.due("strength 1 with need 2", least.echo(0, 3), 0);
        least.set(GAIN, 3);
        least.shoot(1);
        E.due("strength 1 with need 2 less 1", least.echo(0, 3), 1);
        EchoGauge none = new EchoGauge();
        none.set(NEED, 1);
        none.set(GAIN, 20);
        none.setFoam(400);
        none.shoot(1);
        E.due("the surface of strength 0", none.echo(1, 2), 0);
        E.due("a need is never below 1", none.echo(1, 3), 0);
        none.setFoam(399);
        none.shoot(1);
        E.due("the surface of strength 1", none.echo(1, 3), 1);
    }

    private static void candidatesInNoMaskedBin() {
        E.sentence(CANDIDATE);
        int[][] rows = {{1479, 1}, {1480, 0}, {1499, 0}, {1500, 1}};
        for (int[] row : rows) {
            EchoGauge g = new EchoGauge();
            g.mask(1490, true);
            Edges.shootAt(g, 2000 - row[0]);
            E.due("surface at " + row[0] + ", bin of 1480 to 1499 masked", g.echo(0, 3), row[1]);
        }
        EchoGauge top = new EchoGauge();
        top.mask(0, true);
        Edges.shootAt(top, 2000);
        E.due("bin 0", top.echo(0, 3), 0);
        EchoGauge deep = new EchoGauge();
        deep.begin(10000);
        deep.mask(10000, true);
        Edges.shootAt(deep, 0);
        E.due("bin 500", deep.echo(0, 3), 0);
        Edges.shootAt(deep, 1);
        E.due("bin 499", deep.echo(0, 3), 1);
    }

    /** Whether a thing in its first shot is dropped by a guard of blades at these distances. */
    private static int droppedAt(int distance, int upper, int lower) {
        EchoGauge g = new EchoGauge();
        g.begin(10000);
        g.setLevel(0);
        g.setStirrer(0, upper, lower, 0, 0);
        g.set(GUARD, 1);
        g.addThing(distance, 90);
        g.shoot(1);
        int thing = g.echo(0, 0) == 0 ? 0 : 1;
        E.due("candidate ahead of the guard", g.echo(thing, 3), 1);
        int drops = 0;
        for (int i = 0; i < g.gauge(7); i++) {
            drops += g.echo(i, 4);
        }
        E.due("drops", g.gauge(11), drops);
        return g.echo(thing, 4);
    }

    private static void guardZone() {
        E.sentence("If it is on (also without blades), a candidate with a distance from A - 40 to B + 40 is "
            + "dropped, unless each of the latest two shots before this one (of shoot() alone, since the gauge "
            + "was begun; none counts as without candidates) had a candidate, ahead of dropping and as it was "
            + "looked at then, whose distance differs from its by at most 15.");
        int[][] rows = {{259, 300, 600, 0}, {260, 300, 600, 1}, {261, 300, 600, 1}, {639, 300, 600, 1},
            {640, 300, 600, 1}, {641, 300, 600, 0}, {450, 300, 600, 1}, {0, 40, 600, 1}, {0, 41, 600, 0},
            {1, 41, 600, 1}, {0, 39, 600, 1},
            {0, 0, 1, 1}, {41, 0, 1, 1}, {42, 0, 1, 0}, {9999, 0, 10000, 1}, {9999, 0, 9959, 1}, {9999, 0, 9958, 0},
            {9959, 9999, 10000, 1}, {9958, 9999, 10000, 0}};
        for (int[] row : rows) {
            E.due("thing at " + row[0] + ", blades at " + row[1] + " and " + row[2],
                droppedAt(row[0], row[1], row[2]), row[3]);
        }
    }

    private static void guardZoneIsOnAlsoWithoutBlades() {
        E.sentence("If it is on (also without blades), a candidate with a distance from A - 40 to B + 40 is "
            + "dropped,");
        for (int blades : new int[] {0, 1, 6}) {
            EchoGauge g = new EchoGauge();
            g.setStirrer(blades, 300, 600, 30, 0);
            g.set(GUARD, 1);
            g.addThing(400, 50);
            g.shoot(1);
            E.due("dropped with " + blades + " blades", g.echo(0, 4), 1);
            E.due("dropped ones are not picked", g.pick(0), 1500);
        }
    }

    private static void guardIsOffAtFirst() {
        E.sentence("The guard is on or off (off at first).");
        EchoGauge g = new EchoGauge();
        g.addThing(400, 50);
        g.shoot(1);
        E.due("dropped", g.echo(0, 4), 0);
        g.set(GUARD, 1);
        g.addThing(500, 50);
        g.shoot(1);
        E.due("dropped behind one shot", g.echo(0, 4), 1);
        E.due("dropped behind no shot", g.echo(1, 4), 1);
        E.due("drops", g.gauge(11), 2);
        g.set(GUARD, 0);
        g.shoot(1);
        E.due("dropped with the guard off", g.echo(0, 4) + g.echo(1, 4), 0);
        E.due("drops", g.gauge(11), 2);
    }

    private static void guardWantsTwoShots() {
        E.sentence(TWO_SHOTS);
        for (int before = 0; before <= 3; before++) {
            EchoGauge g = new EchoGauge();
            g.addThing(400, 50);
            g.set(GUARD, 1);
            if (before > 0) {
                g.shoot(before);
            }
            g.shoot(1);
            E.due("dropped behind " + before + " shots", g.echo(0, 4), before < 2 ? 1 : 0);
            E.due("drops", g.gauge(11), Math.min(2, before + 1));
        }
    }

    /** A shot for each sign, with the thing or without it; the last one is asked. */
    private static int droppedBehind(String shots) {
        EchoGauge g = new EchoGauge();
        g.set(GUARD, 1);
        for (int i = 0; i < shots.length(); i++) {
            if (g.tank(4) > 0) {
                g.removeThing(0);
            }
            if (shots.charAt(i) == 'x') {
                g.addThing(400, 50);
            }
            g.shoot(1);
        }
        return g.echo(0, 4);
    }

    private static void guardWantsEachOfTwoShots() {
        E.sentence(TWO_SHOTS);
        E.due("both", droppedBehind("xxx"), 0);
        E.due("the latest alone", droppedBehind("-xx"), 1);
        E.due("the one before it alone", droppedBehind("x-x"), 1);
        E.due("none", droppedBehind("--x"), 1);
        E.due("none, but two before", droppedBehind("xx--x"), 1);
        E.due("the third and second one", droppedBehind("xx-x"), 1);
        E.due("both, none before", droppedBehind("--xxx"), 0);
        E.due("the latest and the third one", droppedBehind("x-xx"), 1);
    }

    private static void guardAtTheTop() {
        E.sentence("none counts as without candidates");
        for (int distance : new int[] {0, 1, 15, 16}) {
            EchoGauge g = new EchoGauge();
            g.setStirrer(0, 0, 100, 0, 0);
            g.set(GUARD, 1);
            g.addThing(distance, 50);
            for (int shot = 1; shot <= 3; shot++) {
                g.shoot(1);
                E.due("thing at " + distance + ", shot " + shot, g.echo(0, 4), shot < 3 ? 1 : 0);
            }
            g.removeThing(0);
            g.set(LOSS, 100);
            g.shoot(2);
            g.set(LOSS, 0);
            g.addThing(distance, 50);
            for (int shot = 1; shot <= 3; shot++) {
                g.shoot(1);
                E.due("thing at " + distance + ", shot " + shot + " behind none", g.echo(0, 4), shot < 3 ? 1 : 0);
            }
        }
    }

    /** Whether a thing at 400 is dropped when things were at these distances in the two shots before. */
    private static int droppedAfter(int earlier, int latest) {
        EchoGauge g = new EchoGauge();
        g.addThing(earlier, 50);
        g.shoot(1);
        g.removeThing(0);
        g.addThing(latest, 50);
        g.shoot(1);
        g.removeThing(0);
        g.addThing(400, 50);
        g.set(GUARD, 1);
        g.shoot(1);
        return g.echo(0, 4);
    }

    private static void guardDistance() {
        E.sentence(NEAR_CANDIDATE);
        for (int move : new int[] {-16, -15, -14, 0, 14, 15, 16}) {
            int far = Math.abs(move) > 15 ? 1 : 0;
            E.due("the earlier one moved by " + move, droppedAfter(400 + move, 400), far);
            E.due("the latest one moved by " + move, droppedAfter(400, 400 + move), far);
            E.due("both moved by " + move, droppedAfter(400 + move, 400 + move), far);
            E.due("moved apart by " + move, droppedAfter(400 + move, 400 - move), far);
        }
    }

    private static void guardLooksAheadOfDropping() {
        E.sentence(NEAR_CANDIDATE);
        EchoGauge masked = new EchoGauge();
        masked.addThing(400, 50);
        masked.mask(400, true);
        masked.set(GUARD, 1);
        masked.shoot(2);
        masked.forget();
        for (int shot = 1; shot <= 3; shot++) {
            masked.shoot(1);
            E.due("shot " + shot + " behind the mask", masked.echo(0, 4), shot < 3 ? 1 : 0);
        }
        EchoGauge weak = new EchoGauge();
        weak.addThing(400, 19);
        weak.set(GUARD, 1);
        weak.shoot(2);
        E.due("too weak to be dropped", weak.gauge(11), 0);
        weak.set(NEED, 19);
        for (int shot = 1; shot <= 3; shot++) {
            weak.shoot(1);
            E.due("shot " + shot + " as a candidate", weak.echo(0, 4), shot < 3 ? 1 : 0);
        }
    }

    private static void guardKnowsNoShotsOfLearn() {
        E.sentence(TWO_SHOTS);
        EchoGauge g = new EchoGauge();
        g.addThing(400, 50);
        g.set(GUARD, 1);
        g.learn(2);
        g.forget();
        g.shoot(1);
        E.due("behind two of learn()", g.echo(0, 4), 1);
        g.shoot(1);
        E.due("behind one of shoot()", g.echo(0, 4), 1);
        g.removeThing(0);
        g.learn(2);
        g.addThing(400, 50);
        g.shoot(1);
        E.due("learn() does not come between", g.echo(0, 4), 0);
    }

    private static void guardKnowsNoShotsBeforeBegin() {
        E.sentence(TWO_SHOTS);
        for (int before = 0; before <= 2; before++) {
            EchoGauge g = new EchoGauge();
            g.addThing(400, 50);
            g.shoot(2);
            g.begin(2000);
            g.addThing(400, 50);
            if (before > 0) {
                g.shoot(before);
            }
            g.set(GUARD, 1);
            g.shoot(1);
            E.due("dropped behind begin() and " + before, g.echo(0, 4), before < 2 ? 1 : 0);
        }
    }

    // ---- picks

    private static int pickOf(int mode, int... things) {
        EchoGauge g = new EchoGauge();
        g.set(MODE, mode);
        for (int i = 0; i < things.length; i += 2) {
            g.addThing(things[i], things[i + 1]);
        }
        g.shoot(1);
        return g.pick(0);
    }

    private static void modeFirst() {
        E.sentence("Of the candidates that are left, one is picked, by the mode: 0 (at first) the first one in "
            + "their order,");
        E.due("the first", pickOf(0, 200, 30, 199, 30, 201, 99), 199);
        E.due("none but the surface", pickOf(0), 1500);
        EchoGauge g = new EchoGauge();
        g.addThing(300, 30);
        g.addThing(300, 31);
        g.shoot(1);
        E.due("the stronger one comes first", g.echo(0, 5), 1);
        E.due("one is picked", g.echo(1, 5), 0);
    }

    private static void modeStrongest() {
        E.sentence(STRONGEST_OR_NEAREST);
        E.due("weaker by 1", pickOf(1, 200, 79), 1500);
        E.due("as strong", pickOf(1, 200, 80), 200);
        E.due("stronger by 1", pickOf(1, 200, 81), 200);
        E.due("two as strong", pickOf(1, 201, 90, 200, 90), 200);
        E.due("the second is stronger", pickOf(1, 201, 91, 200, 90), 201);
    }

    /** The pick of mode 2 among two things when this distance is told. */
    private static int nearest(int told, int one, int other) {
        EchoGauge g = Edges.direct();
        Edges.shootAt(g, 2000 - told);
        g.setLevel(0);
        g.set(MODE, 2);
        g.addThing(one, 50);
        g.addThing(other, 50);
        g.shoot(1);
        return g.pick(0);
    }

    private static void modeNearest() {
        E.sentence(STRONGEST_OR_NEAREST);
        E.due("none told", pickOf(2, 200, 30, 1400, 90), 200);
        E.due("as near, the first", nearest(800, 790, 810), 790);
        E.due("the second nearer by 1", nearest(800, 790, 809), 809);
        E.due("the first nearer by 1", nearest(800, 791, 810), 791);
        E.due("there itself", nearest(800, 799, 800), 800);
        E.due("told 0", nearest(0, 1, 2), 1);
        E.due("told H", nearest(2000, 1998, 1999), 2000);
    }

    private static void noCandidateNoPick() {
        E.sentence("If there is none, the shot has no pick.");
        EchoGauge g = new EchoGauge();
        g.mask(1500, true);
        E.due("one echo, masked", g.shoot(1), 0);
        E.due("pick", g.pick(0), -1);
        E.due("shots in the history", g.gauge(8), 1);
        E.due("picks in the history", g.gauge(9), 0);
        EchoGauge dropped = new EchoGauge();
        dropped.set(GUARD, 1);
        dropped.setLevel(1500);
        dropped.mask(1000, true);
        E.due("one candidate, dropped", dropped.shoot(1), 0);
        E.due("candidate", dropped.echo(0, 3), 1);
        E.due("dropped", dropped.echo(0, 4), 1);
        E.due("picked", dropped.echo(0, 5), 0);
        EchoGauge lost = new EchoGauge();
        lost.set(LOSS, 100);
        E.due("no echoes", lost.shoot(1), 0);
    }

    // ---- history

    private static void placesOfTheHistory() {
        E.sentence("The history has the latest N shots (N is 1 to 9, 5 at first), each with its pick or none.");
        for (int places = 1; places <= 9; places++) {
            EchoGauge g = new EchoGauge();
            g.set(PLACES, places);
            for (int shots = 1; shots <= places + 1; shots++) {
                Edges.shootAt(g, 100 + shots);
                E.due("shots in the history of " + places, g.gauge(8), Math.min(shots, places));
                int oldest = Math.min(shots, places) - 1;
                E.due("the oldest", g.pick(oldest), 1900 - shots + oldest);
                E.due("behind the oldest", g.pick(oldest + 1), -1);
            }
        }
    }

    private static EchoGauge withMissesAndPicks(int places, int misses, int picks) {
        EchoGauge g = new EchoGauge();
        g.set(PLACES, places);
        g.set(PATIENCE, 99);
        g.set(LOSS, 100);
        if (misses > 0) {
            g.shoot(misses);
        }
        g.set(LOSS, 0);
        if (picks > 0) {
            g.shoot(picks);
        }
        return g;
    }

    private static void halfOfThePlaces() {
        E.sentence(HALF);
        for (int places = 1; places <= 9; places++) {
            for (int picks = 0; picks <= places; picks++) {
                EchoGauge g = withMissesAndPicks(places, places - picks, picks);
                boolean enough = 2 * picks >= places;
                String name = picks + " of " + places;
                E.due("shots, " + name, g.gauge(8), places);
                E.due("picks, " + name, g.gauge(9), picks);
                E.due("median, " + name, g.gauge(10), enough ? 1500 : -1);
                E.due("told, " + name, g.gauge(2), enough ? 1500 : -1);
                E.due("misses, " + name, g.gauge(4), enough ? 0 : places);
            }
        }
    }

    private static void halfOfThePlacesWithFewShots() {
        E.sentence(HALF);
        int[] least = {1, 1, 2, 2, 3, 3, 4, 4, 5};
        for (int places = 1; places <= 9; places++) {
            EchoGauge g = new EchoGauge();
            g.set(PLACES, places);
            for (int shots = 1; shots <= places; shots++) {
                g.shoot(1);
                boolean enough = shots >= least[places - 1];
                E.due("told behind " + shots + " of " + places, g.gauge(3), enough ? 500 : -1);
                E.due("misses behind " + shots + " of " + places, g.gauge(4), enough ? 0 : shots);
            }
        }
    }

    private static void medianIndex() {
        E.sentence(MEDIAN);
        int[] order = {5, 2, 8, 1, 9, 4, 7, 3, 6};
        int[] medians = {1, 1, 2, 2, 3, 3, 4, 4, 5};
        for (int picks = 1; picks <= 9; picks++) {
            EchoGauge g = new EchoGauge();
            g.set(PLACES, picks);
            for (int rank : order) {
                if (rank <= picks) {
                    Edges.shootAt(g, 2000 - 10 * rank);
                }
            }
            E.due("median of " + picks, g.gauge(10), 10 * medians[picks - 1]);
        }
        EchoGauge six = new EchoGauge();
        six.set(PLACES, 9);
        for (int rank : new int[] {3, 1, 6, 2, 5, 4}) {
            Edges.shootAt(six, 2000 - 10 * rank);
        }
        E.due("median of six in nine places", six.gauge(10), 30);
    }

    private static int medianOf(int... distances) {
        EchoGauge g = new EchoGauge();
        g.set(PLACES, distances.length);
        for (int distance : distances) {
            Edges.shootAt(g, 2000 - distance);
        }
        return g.gauge(10);
    }

    private static void medianOfEqualPicks() {
        E.sentence(MEDIAN);
        E.due("all equal", medianOf(7, 7, 7, 7), 7);
        E.due("the lower two equal", medianOf(9, 7, 7), 7);
        E.due("the upper two equal", medianOf(9, 7, 9), 9);
        E.due("two and two", medianOf(9, 7, 9, 7), 7);
        E.due("one and three", medianOf(9, 7, 9, 9), 9);
        int[][] orders = {{7, 8, 9}, {7, 9, 8}, {8, 7, 9}, {8, 9, 7}, {9, 7, 8}, {9, 8, 7}};
        for (int[] order : orders) {
            E.due("next to each other", medianOf(order), 8);
        }
        E.due("0 and H", medianOf(0, 2000, 0), 0);
        E.due("0 and H", medianOf(2000, 0, 2000), 2000);
    }

    private static void firstMedianIsTold() {
        E.sentence("If no distance is told yet, m is told from now on; otherwise the told distance becomes told "
            + "+ (m - told) / f, where f is the smoothing (1 to 20, 4 at first), and if this changes nothing "
            + "though m is another one, it becomes m.");
        for (int level : new int[] {0, 1, 1999, 2000}) {
            EchoGauge g = new EchoGauge();
            g.set(PLACES, 1);
            g.set(SMOOTHING, 20);
            E.due("none told yet", g.gauge(2), -1);
            E.due("none told yet", g.gauge(3), -1);
            Edges.shootAt(g, level);
            E.due("told distance", g.gauge(2), 2000 - level);
            E.due("told level", g.gauge(3), level);
        }
    }

    private static void smoothingSteps() {
        E.sentence("otherwise the told distance becomes told + (m - told) / f, where f is the smoothing (1 to "
            + "20, 4 at first), and if this changes nothing though m is another one, it becomes m.");
        for (int f : new int[] {1, 2, 4, 19, 20}) {
            for (int move : new int[] {0, 1, f - 1, f, f + 1, 2 * f - 1, 2 * f, 2 * f + 1, 300}) {
                for (int sign = -1; sign <= 1; sign += 2) {
                    EchoGauge g = new EchoGauge();
                    g.set(PLACES, 1);
                    g.set(SMOOTHING, f);
                    Edges.shootAt(g, 1000);
                    Edges.shootAt(g, 1000 - sign * move);
                    int steps = move / f;
                    E.due("told with smoothing " + f + " and " + sign * move, g.gauge(2),
                        1000 + sign * (steps == 0 ? move : steps));
                }
            }
        }
    }

    private static void missesEndWithAMedian() {
        E.sentence("The misses become 0.");
        for (int misses : new int[] {0, 1, 98}) {
            EchoGauge g = withMissesAndPicks(1, misses, 0);
            E.due("misses", g.gauge(4), misses);
            g.shoot(1);
            E.due("misses behind a pick", g.gauge(4), 0);
            g.shoot(1);
            E.due("misses behind two picks", g.gauge(4), 0);
        }
    }

    private static void patience() {
        E.sentence("If fewer places have picks, the misses increase by 1; if they are equal to the patience (1 "
            + "to 99, 10 at first) then, no distance is told any more, and the history has no picks (its shots "
            + "stay as shots without one).");
        for (int most : new int[] {1, 2, 10, 98, 99}) {
            EchoGauge g = Edges.direct();
            g.set(PATIENCE, most);
            g.shoot(1);
            g.set(LOSS, 100);
            if (most > 1) {
                g.shoot(most - 1);
            }
            E.due("misses below " + most, g.gauge(4), most - 1);
            E.due("told below " + most, g.gauge(2), 1500);
            g.shoot(1);
            E.due("misses at " + most, g.gauge(4), most);
            E.due("told at " + most, g.gauge(2), -1);
            E.due("level at " + most, g.gauge(3), -1);
            g.shoot(1);
            E.due("misses above " + most, g.gauge(4), most + 1);
            E.due("told above " + most, g.gauge(2), -1);
        }
    }

    private static void patienceEmptiesTheHistory() {
        E.sentence(NONE_TOLD_ANY_MORE);
        for (int most = 1; most <= 4; most++) {
            EchoGauge g = withNineShots();
            g.set(PATIENCE, most);
            g.set(LOSS, 100);
            g.shoot(most + 3);
            E.due("picks below " + most, g.gauge(9), 6 - most);
            E.due("misses below " + most, g.gauge(4), most - 1);
            g.shoot(1);
            E.due("picks at " + most, g.gauge(9), 0);
            E.due("shots at " + most, g.gauge(8), 9);
            E.due("shots that had a pick so far", g.gauge(1), 9);
            for (int back = 0; back < 9; back++) {
                E.due("pick(" + back + ")", g.pick(back), -1);
            }
            g.set(LOSS, 0);
            g.shoot(4);
            E.due("still too few", g.gauge(2), -1);
            g.shoot(1);
            E.due("enough again", g.gauge(2), 1891);
        }
    }

    private static void patienceTakesTheLatestPickToo() {
        E.sentence(NONE_TOLD_ANY_MORE);
        for (int most = 1; most <= 4; most++) {
            EchoGauge g = new EchoGauge();
            g.set(PLACES, 9);
            g.set(PATIENCE, most);
            E.due("shots with a pick", g.shoot(most), most);
            E.due("the latest pick", g.pick(0), -1);
            E.due("picks", g.gauge(9), 0);
            E.due("shots", g.gauge(8), most);
            E.due("it was picked", g.echo(0, 5), 1);
            E.due("misses", g.gauge(4), most);
            g.shoot(4);
            E.due("four picks of nine", g.gauge(2), -1);
            g.shoot(1);
            E.due("five picks of nine", g.gauge(2), 1500);
        }
    }

    private static void patienceThatIsPassed() {
        E.sentence("if they are equal to the patience (1 to 99, 10 at first) then, no distance is told any more,");
        EchoGauge g = Edges.direct();
        g.shoot(1);
        g.set(LOSS, 100);
        g.shoot(5);
        g.set(PATIENCE, 5);
        g.shoot(1);
        E.due("six misses are not equal to five", g.gauge(2), 1500);
        g.set(PATIENCE, 8);
        g.shoot(1);
        E.due("seven misses", g.gauge(2), 1500);
        g.shoot(1);
        E.due("eight misses", g.gauge(2), -1);
    }

    // ---- alarms

    private static int alarmAt(EchoGauge g, int level) {
        Edges.shootAt(g, level);
        E.due("told level", g.gauge(3), level);
        return g.gauge(5);
    }

    private static void lowAlarm() {
        E.sentence("the alarm becomes 1 (low) if a level is told that is at most the low limit;");
        for (int low : new int[] {1, 200, 1000}) {
            E.due("below " + low, alarmAt(withLimits(low, 1800), low - 1), 1);
            E.due("at " + low, alarmAt(withLimits(low, 1800), low), 1);
            E.due("above " + low, alarmAt(withLimits(low, 1800), low + 1), 0);
        }
        E.due("at 0", alarmAt(withLimits(0, 1800), 0), 1);
        E.due("above 0", alarmAt(withLimits(0, 1800), 1), 0);
    }

    private static void highAlarm() {
        E.sentence("otherwise 2 (high) if one is told that is at least the high limit;");
        for (int high : new int[] {201, 1000, 1999}) {
            E.due("below " + high, alarmAt(withLimits(100, high), high - 1), 0);
            E.due("at " + high, alarmAt(withLimits(100, high), high), 2);
            E.due("above " + high, alarmAt(withLimits(100, high), high + 1), 2);
        }
        E.due("at H", alarmAt(withLimits(100, 2000), 2000), 2);
        E.due("H is below the limit", alarmAt(withLimits(100, 2001), 2000), 0);
    }

    private static void lowComesBeforeHigh() {
        E.sentence("the alarm becomes 1 (low) if a level is told that is at most the low limit; otherwise 2 "
            + "(high) if one is told that is at least the high limit;");
        EchoGauge g = withLimits(700, 700);
        E.due("at both limits", alarmAt(g, 700), 1);
        E.due("above both", alarmAt(g, 701), 2);
        E.due("below both", alarmAt(g, 699), 1);
        E.due("alarms that began", g.gauge(12), 3);
        EchoGauge apart = withLimits(700, 701);
        E.due("at the low one", alarmAt(apart, 700), 1);
        E.due("at the high one", alarmAt(apart, 701), 2);
    }

    private static void marginOfTheLowAlarm() {
        E.sentence(MARGINS);
        for (int margin : new int[] {0, 1, 20, 499, 500}) {
            for (int level = 199 + margin; level <= 201 + margin; level++) {
                EchoGauge g = Edges.direct();
                g.set(MARGIN, margin);
                E.due("alarm", alarmAt(g, 200), 1);
                E.due("alarm at " + level + ", margin " + margin, alarmAt(g, level), level > 200 + margin ? 0 : 1);
            }
        }
        EchoGauge g = Edges.direct();
        E.due("without an alarm there is nothing to keep", alarmAt(g, 220), 0);
    }

    private static void marginOfTheHighAlarm() {
        E.sentence(MARGINS);
        for (int margin : new int[] {0, 1, 20, 499, 500}) {
            for (int level = 1799 - margin; level <= 1801 - margin; level++) {
                EchoGauge g = Edges.direct();
                g.set(MARGIN, margin);
                E.due("alarm", alarmAt(g, 1800), 2);
                E.due("alarm at " + level + ", margin " + margin, alarmAt(g, level), level < 1800 - margin ? 0 : 2);
            }
        }
        EchoGauge low = withLimits(1300, 1800);
        low.set(MARGIN, 500);
        E.due("low", alarmAt(low, 1300), 1);
        E.due("high, also inside the margin of low", alarmAt(low, 1800), 2);
        E.due("high inside its own margin", alarmAt(low, 1301), 2);
        E.due("low, also inside the margin of high", alarmAt(low, 1300), 1);
        E.due("low inside its own margin", alarmAt(low, 1799), 1);
    }

    private static void alarmWithoutALevel() {
        E.sentence("an alarm also ends if no level is told.");
        for (int level : new int[] {200, 1800}) {
            EchoGauge g = Edges.direct();
            g.set(PATIENCE, 2);
            int alarm = level == 200 ? 1 : 2;
            E.due("alarm", alarmAt(g, level), alarm);
            g.set(LOSS, 100);
            g.shoot(1);
            E.due("still told", g.gauge(5), alarm);
            g.shoot(1);
            E.due("none told", g.gauge(3), -1);
            E.due("no alarm", g.gauge(5), 0);
            E.due("begun", g.gauge(12), 1);
            g.set(LOSS, 0);
            g.shoot(1);
            E.due("alarm again", g.gauge(5), alarm);
            E.due("begun again", g.gauge(12), 2);
        }
    }

    private static void alarmsThatBegan() {
        E.sentence("12 alarms that began so far (also where one kind follows the other one at once)");
        EchoGauge g = Edges.direct();
        int[] levels = {201, 200, 0, 200, 220, 221, 1799, 1800, 2000, 200, 1800, 1780, 1779, 1800};
        int[] begun = {0, 1, 1, 1, 1, 1, 1, 2, 2, 3, 4, 4, 4, 5};
        for (int i = 0; i < levels.length; i++) {
            Edges.shootAt(g, levels[i]);
            E.due("begun behind " + levels[i], g.gauge(12), begun[i]);
        }
    }
}

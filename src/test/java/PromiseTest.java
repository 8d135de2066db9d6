/** A test for each promise: ordinary inputs, the edges that the document names, and wrong inputs. */
public final class PromiseTest {
    private static final Check CHECK = new Check();
    private static final int KIND = 0;
    private static final int DISTANCE = 1;
    private static final int STRENGTH = 2;
    private static final int CANDIDATE = 3;
    private static final int DROPPED = 4;
    private static final int PICKED = 5;
    private static final int[] FIRST_TANK = {2000, 500, 0, 0, 0, 0, 300, 600, 0, 47, 20, 1};
    private static final int[] FIRST_SETTINGS = {0, 0, 20, 2, 0, 0, 5, 4, 10, 200, 1800, 20};
    private static final int[] FIRST_GAUGE = {0, 0, -1, -1, 0, 0, 0, 0, 0, 0, -1, 0, 0};
    private static final int[] SETTING_LEAST = {0, 0, 1, 0, 0, 0, 1, 1, 1, 0, 200, 0};
    private static final int[] SETTING_MOST = {100, 20, 100, 20, 1, 2, 9, 20, 99, 1800, 10000, 500};

    public static void main(String[] args) {
        newObject();
        begin();
        setLevel();
        setFlow();
        setFoam();
        addThing();
        removeThing();
        setStirrer();
        set();
        setS();
        mask();
        learn();
        forget();
        shoot();
        echo();
        pick();
        isMasked();
        need();
        thing();
        angle();
        tank();
        setting();
        gauge();
        meanPick();
        toldAfter();
        worstError();
        bestMode();
        type();
        clearCommands();
        runCommands();
        undo();
        digest();
        CHECK.end();
    }

    private static void promise(int number, String name) {
        CHECK.at("promise " + number + " " + name);
    }

    private static void row(String name, java.util.function.IntUnaryOperator call, int... want) {
        for (int i = 0; i < want.length; i++) {
            CHECK.due(name + "(" + i + ")", call.applyAsInt(i), want[i]);
        }
    }

    private static void echoIs(EchoGauge g, int echo, int... want) {
        for (int what = 0; what < want.length; what++) {
            CHECK.due("echo(" + echo + ", " + what + ")", g.echo(echo, what), want[what]);
        }
    }

    private static void typeAll(EchoGauge g, String text) {
        g.clearCommands();
        for (int i = 0; i < text.length(); i++) {
            g.type(text.charAt(i));
        }
    }

    private static int run(EchoGauge g, String text) {
        typeAll(g, text);
        return g.runCommands();
    }

    private static void faultIs(String text, int fault) {
        EchoGauge g = new EchoGauge();
        typeAll(g, text);
        long before = g.digest();
        CHECK.due("run of '" + text + "'", g.runCommands(), -10 - fault);
        CHECK.due("digest behind '" + text + "'", g.digest(), before);
    }

    private static void newObject() {
        promise(1, "new");
        EchoGauge g = new EchoGauge();
        row("tank", g::tank, FIRST_TANK);
        row("setting", g::setting, FIRST_SETTINGS);
        row("gauge", g::gauge, FIRST_GAUGE);
        CHECK.due("mask", g.isMasked(0), false);
        CHECK.due("mask", g.isMasked(10000), false);
        CHECK.due("text", g.clearCommands(), 0);
        CHECK.badState("undo", g, g::undo);
        CHECK.due("pick", g.pick(0), EchoGauge.NONE);
        CHECK.due("NONE", EchoGauge.NONE, -1);
    }

    private static void begin() {
        promise(2, "begin");
        EchoGauge g = new EchoGauge();
        g.setLevel(900);
        g.setFlow(3);
        g.setFoam(40);
        g.addThing(100, 50);
        g.setStirrer(2, 100, 200, 5, 6);
        for (int what = 0; what < 12; what++) {
            g.set(what, what == 10 ? 1700 : what == 9 ? 300 : 1);
        }
        g.mask(40, true);
        g.shoot(7);
        g.learn(2);
        int s = g.tank(11);
        g.type('x');
        CHECK.due("begin", g.begin(500), 7);
        int[] tank = FIRST_TANK.clone();
        tank[0] = 500;
        tank[11] = s;
        CHECK.differs("s", s, 1);
        row("tank", g::tank, tank);
        row("setting", g::setting, FIRST_SETTINGS);
        row("gauge", g::gauge, FIRST_GAUGE);
        CHECK.due("mask", g.isMasked(40), false);
        CHECK.due("echo", g.echo(0, 0), -1);
        CHECK.due("pick", g.pick(0), -1);
        CHECK.due("undo", g.undo(), 3);
        CHECK.due("shots", g.gauge(0), 7);
        CHECK.due("depth", g.tank(0), 2000);
        CHECK.due("text", g.clearCommands(), 1);
        CHECK.due("begin", g.begin(10000), 7);
        CHECK.due("depth", g.tank(0), 10000);
        CHECK.badArgument("begin(499)", g, () -> g.begin(499));
        CHECK.badArgument("begin(10001)", g, () -> g.begin(10001));
        CHECK.badArgument("begin(MIN)", g, () -> g.begin(Integer.MIN_VALUE));
        guardStartsAgainWithBegin();
        accountsStartAgainWithBegin();
    }

    private static void guardStartsAgainWithBegin() {
        EchoGauge g = new EchoGauge();
        g.set(4, 1);
        g.addThing(400, 50);
        g.shoot(5);
        CHECK.due("dropped", g.echo(0, DROPPED), 0);
        g.begin(2000);
        g.set(4, 1);
        g.addThing(400, 50);
        for (int shot = 1; shot <= 3; shot++) {
            g.shoot(1);
            CHECK.due("dropped in shot " + shot, g.echo(0, DROPPED), shot < 3 ? 1 : 0);
        }
        CHECK.due("drops", g.gauge(11), 2);
    }

    private static void accountsStartAgainWithBegin() {
        EchoGauge g = new EchoGauge();
        g.setLevel(100);
        g.shoot(5);
        g.set(0, 100);
        g.shoot(4);
        row("gauge", g::gauge, 9, 5, 1900, 100, 2, 1, 0, 0, 5, 1, -1, 0, 1);
        g.begin(700);
        row("gauge", g::gauge, FIRST_GAUGE);
        CHECK.due("undo", g.undo(), 3);
        row("gauge", g::gauge, 9, 5, 1900, 100, 2, 1, 0, 0, 5, 1, -1, 0, 1);
    }

    private static void setLevel() {
        promise(3, "setLevel");
        EchoGauge g = new EchoGauge();
        CHECK.due("setLevel", g.setLevel(2000), 500);
        CHECK.due("setLevel", g.setLevel(0), 2000);
        CHECK.due("level", g.tank(1), 0);
        CHECK.badArgument("setLevel(-1)", g, () -> g.setLevel(-1));
        CHECK.badArgument("setLevel(2001)", g, () -> g.setLevel(2001));
        CHECK.due("undo", g.undo(), 1);
        CHECK.due("level", g.tank(1), 2000);
        g.begin(600);
        CHECK.badArgument("setLevel(601)", g, () -> g.setLevel(601));
        g.setLevel(600);
        g.shoot(1);
        echoIs(g, 0, 3, 0, 80, 1, 0, 1);
        echoIs(g, 1, 4, 0, 40, 1, 0, 0);
    }

    private static void setFlow() {
        promise(4, "setFlow");
        EchoGauge g = new EchoGauge();
        CHECK.due("setFlow", g.setFlow(200), 0);
        CHECK.due("setFlow", g.setFlow(-200), 200);
        CHECK.due("flow", g.tank(2), -200);
        g.shoot(1);
        CHECK.due("level", g.tank(1), 300);
        CHECK.due("distance", g.echo(0, DISTANCE), 1700);
        g.learn(1);
        CHECK.due("level", g.tank(1), 100);
        g.shoot(1);
        CHECK.due("level", g.tank(1), 0);
        g.setLevel(1900);
        g.setFlow(150);
        g.shoot(1);
        CHECK.due("level", g.tank(1), 2000);
        CHECK.badArgument("setFlow(201)", g, () -> g.setFlow(201));
        CHECK.badArgument("setFlow(-201)", g, () -> g.setFlow(-201));
        CHECK.due("setFlow", g.setFlow(3), 150);
        CHECK.due("undo", g.undo(), 3);
        CHECK.due("flow", g.tank(2), 150);
        g.undo();
        CHECK.due("level", g.tank(1), 1900);
        CHECK.due("undo", g.undo(), 1);
        CHECK.due("flow", g.tank(2), -200);
    }

    private static void setFoam() {
        promise(5, "setFoam");
        EchoGauge g = new EchoGauge();
        CHECK.due("setFoam", g.setFoam(9), 0);
        g.shoot(1);
        echoIs(g, 0, 2, 1491, 70, 1, 0, 1);
        echoIs(g, 1, 3, 1500, 79, 1, 0, 0);
        echoIs(g, 2, 4, 3000, 39, 0, 0, 0);
        CHECK.due("setFoam", g.setFoam(500), 9);
        g.setLevel(1700);
        g.shoot(1);
        echoIs(g, 0, 2, 0, 20, 1, 0, 1);
        echoIs(g, 1, 3, 300, 0, 0, 0, 0);
        echoIs(g, 2, 4, 600, 0, 0, 0, 0);
        g.setLevel(500);
        g.setFoam(30);
        g.shoot(1);
        echoIs(g, 0, 2, 1470, 67, 1, 0, 1);
        echoIs(g, 1, 3, 1500, 74, 1, 0, 0);
        g.setFoam(500);
        CHECK.badArgument("setFoam(-1)", g, () -> g.setFoam(-1));
        CHECK.badArgument("setFoam(501)", g, () -> g.setFoam(501));
        CHECK.due("setFoam", g.setFoam(0), 500);
        CHECK.due("undo", g.undo(), 3);
        CHECK.due("foam", g.tank(3), 500);
    }

    private static void addThing() {
        promise(6, "addThing");
        EchoGauge g = new EchoGauge();
        CHECK.due("addThing", g.addThing(0, 1), 0);
        CHECK.due("addThing", g.addThing(10000, 100), 1);
        CHECK.due("addThing", g.addThing(1500, 50), 2);
        CHECK.due("addThing", g.addThing(1499, 50), 3);
        CHECK.badArgument("addThing(-1, 1)", g, () -> g.addThing(-1, 1));
        CHECK.badArgument("addThing(10001, 1)", g, () -> g.addThing(10001, 1));
        CHECK.badArgument("addThing(1, 0)", g, () -> g.addThing(1, 0));
        CHECK.badArgument("addThing(1, 101)", g, () -> g.addThing(1, 101));
        g.shoot(1);
        CHECK.due("echoes", g.gauge(7), 4);
        echoIs(g, 0, 0, 0, 1, 0, 0, 0);
        echoIs(g, 1, 0, 1499, 50, 1, 0, 1);
        g.undo();
        g.addThing(1, 1);
        CHECK.due("addThing", g.addThing(2, 2), 5);
        CHECK.badState("addThing(3, 3)", g, () -> g.addThing(3, 3));
        CHECK.badArgument("addThing(3, 0)", g, () -> g.addThing(3, 0));
        CHECK.due("undo", g.undo(), 3);
        CHECK.due("things", g.tank(4), 5);
        equalEchoesAreInOrder();
    }

    private static void equalEchoesAreInOrder() {
        EchoGauge g = new EchoGauge();
        g.addThing(300, 60);
        g.addThing(200, 10);
        g.addThing(200, 20);
        g.setStirrer(1, 300, 600, 0, 0);
        g.setFoam(100);
        g.setLevel(1600);
        g.shoot(1);
        CHECK.due("echoes", g.gauge(7), 5);
        echoIs(g, 0, 0, 200, 20);
        echoIs(g, 1, 0, 200, 10);
        echoIs(g, 2, 0, 300, 60);
        echoIs(g, 3, 1, 300, 60);
        echoIs(g, 4, 2, 300, 60);
    }

    private static void removeThing() {
        promise(7, "removeThing");
        EchoGauge g = new EchoGauge();
        g.addThing(10, 11);
        g.addThing(20, 21);
        g.addThing(30, 31);
        CHECK.badIndex("removeThing(3)", g, () -> g.removeThing(3));
        CHECK.badIndex("removeThing(-1)", g, () -> g.removeThing(-1));
        CHECK.due("removeThing", g.removeThing(0), 2);
        CHECK.due("distance", g.thing(0, 0), 20);
        CHECK.due("strength", g.thing(1, 1), 31);
        CHECK.due("undo", g.undo(), 3);
        CHECK.due("distance", g.thing(0, 0), 10);
        CHECK.due("distance", g.thing(2, 0), 30);
        CHECK.due("removeThing", g.removeThing(2), 2);
        CHECK.due("removeThing", g.removeThing(0), 1);
        CHECK.due("removeThing", g.removeThing(0), 0);
        CHECK.badIndex("removeThing(0)", g, () -> g.removeThing(0));
    }

    private static void setStirrer() {
        promise(8, "setStirrer");
        EchoGauge g = new EchoGauge();
        g.shoot(1);
        CHECK.due("phase", g.tank(8), 47);
        CHECK.due("setStirrer", g.setStirrer(6, 0, 10000, 359, 90), 0);
        CHECK.due("setStirrer", g.setStirrer(0, 9999, 10000, 0, 0), 6);
        CHECK.due("phase", g.tank(8), 47);
        CHECK.badArgument("blades", g, () -> g.setStirrer(-1, 1, 2, 3, 4));
        CHECK.badArgument("blades", g, () -> g.setStirrer(7, 1, 2, 3, 4));
        CHECK.badArgument("upper", g, () -> g.setStirrer(1, -1, 2, 3, 4));
        CHECK.badArgument("lower", g, () -> g.setStirrer(1, 2, 2, 3, 4));
        CHECK.badArgument("lower", g, () -> g.setStirrer(1, 2, 10001, 3, 4));
        CHECK.badArgument("speed", g, () -> g.setStirrer(1, 1, 2, -1, 4));
        CHECK.badArgument("speed", g, () -> g.setStirrer(1, 1, 2, 360, 4));
        CHECK.badArgument("beam", g, () -> g.setStirrer(1, 1, 2, 3, -1));
        CHECK.badArgument("beam", g, () -> g.setStirrer(1, 1, 2, 3, 91));
        CHECK.due("undo", g.undo(), 2);
        row("tank", g::tank, 2000, 500, 0, 0, 0, 6, 0, 10000, 47, 359, 90);
        bladesShowInTheBeam();
        bladesHideTheSurface();
    }

    private static void bladesShowInTheBeam() {
        int[] speeds = {20, 21, 339, 340, 0};
        boolean[] shown = {true, false, false, true, true};
        for (int i = 0; i < speeds.length; i++) {
            EchoGauge g = new EchoGauge();
            g.setStirrer(1, 300, 600, speeds[i], 20);
            g.shoot(1);
            CHECK.due("kind at " + speeds[i], g.echo(0, KIND), shown[i] ? 1 : 3);
            CHECK.due("distance at " + speeds[i], g.echo(0, DISTANCE), shown[i] ? 300 : 1500);
            CHECK.due("echoes at " + speeds[i], g.gauge(7), shown[i] ? 1 : 2);
        }
        EchoGauge g = new EchoGauge();
        g.setStirrer(2, 300, 600, 180, 0);
        g.shoot(1);
        echoIs(g, 0, 1, 600, 60, 1, 0, 1);
        g.shoot(1);
        echoIs(g, 0, 1, 300, 60, 1, 0, 1);
        EchoGauge three = new EchoGauge();
        three.setStirrer(3, 300, 600, 120, 0);
        int[] distances = {300, 600, 300};
        for (int distance : distances) {
            three.shoot(1);
            echoIs(three, 0, 1, distance, 60);
        }
        EchoGauge narrow = new EchoGauge();
        narrow.setStirrer(1, 300, 600, 359, 0);
        narrow.shoot(1);
        CHECK.due("kind", narrow.echo(0, KIND), 3);
    }

    private static void bladesHideTheSurface() {
        EchoGauge g = new EchoGauge();
        g.setStirrer(1, 300, 600, 0, 0);
        g.setLevel(1700);
        g.shoot(1);
        CHECK.due("kind at d", g.echo(0, KIND), 3);
        g.setLevel(1699);
        g.setFoam(1);
        g.shoot(1);
        CHECK.due("echoes", g.gauge(7), 2);
        echoIs(g, 0, 2, 300, 70);
        echoIs(g, 1, 1, 300, 60);
        g.set(0, 100);
        g.shoot(1);
        CHECK.due("echoes, all lost", g.gauge(7), 0);
    }

    private static void set() {
        promise(9, "set");
        EchoGauge g = new EchoGauge();
        for (int what = 0; what < 12; what++) {
            int setting = what;
            int least = SETTING_LEAST[what];
            int most = SETTING_MOST[what];
            CHECK.due("set " + what, g.set(what, most), FIRST_SETTINGS[what]);
            CHECK.due("set " + what, g.set(what, least), most);
            CHECK.due("setting " + what, g.setting(what), least);
            CHECK.badArgument("set below " + what, g, () -> g.set(setting, least - 1));
            CHECK.badArgument("set above " + what, g, () -> g.set(setting, most + 1));
            g.set(what, FIRST_SETTINGS[what]);
        }
        CHECK.badArgument("set(-1, 1)", g, () -> g.set(-1, 1));
        CHECK.badArgument("set(12, 1)", g, () -> g.set(12, 1));
        g.set(9, 1800);
        CHECK.badArgument("low above high", g, () -> g.set(9, 1801));
        CHECK.badArgument("high below low", g, () -> g.set(10, 1799));
        CHECK.due("low", g.set(9, 0), 1800);
        CHECK.due("high", g.set(10, 0), 1800);
        CHECK.badArgument("high", g, () -> g.set(10, -1));
        CHECK.due("undo", g.undo(), 3);
        CHECK.due("high", g.setting(10), 1800);
        fewerPlacesDropTheOldest();
        chanceFollowsItsRow();
        strengthMeetsTheNeed();
        guardDropsWhatDoesNotStay();
        guardTellsDistancesApart();
        modesPick();
        alarmsHaveMargins();
        patienceEnds();
        smoothingComesNearer();
    }

    private static void fewerPlacesDropTheOldest() {
        EchoGauge g = new EchoGauge();
        for (int i = 1; i <= 5; i++) {
            g.setLevel(100 * i);
            g.shoot(1);
        }
        g.set(6, 2);
        CHECK.due("shots", g.gauge(8), 2);
        CHECK.due("median", g.gauge(10), 1500);
        CHECK.due("told stays", g.gauge(2), 1757);
        g.set(6, 6);
        CHECK.due("shots", g.gauge(8), 2);
        CHECK.due("median", g.gauge(10), -1);
        row("pick", g::pick, 1500, 1600, -1, -1);
        g.shoot(1);
        CHECK.due("median", g.gauge(10), 1500);
        CHECK.due("told", g.gauge(2), 1757 - 64);
    }

    /** The numbers from s = 1 are 16838, 5758, 10113, 17515, 31051, 5627 and so on. */
    private static void chanceFollowsItsRow() {
        EchoGauge g = new EchoGauge();
        g.set(0, 38);
        g.shoot(1);
        CHECK.due("none lost", g.gauge(7), 2);
        g.setS(1);
        g.set(0, 39);
        g.shoot(1);
        CHECK.due("one lost", g.gauge(7), 1);
        echoIs(g, 0, 4, 3000, 40);
        g.setS(1);
        g.set(1, 10);
        g.shoot(1);
        CHECK.due("one lost", g.gauge(7), 1);
        CHECK.due("moved", g.echo(0, DISTANCE), 3000 + 10113 % 21 - 10);
        g.setS(1);
        g.set(0, 0);
        g.shoot(1);
        CHECK.due("moved", g.echo(0, DISTANCE), 1500 + 5758 % 21 - 10);
        CHECK.due("moved", g.echo(1, DISTANCE), 3000 + 17515 % 21 - 10);
        g.setS(1);
        g.set(1, 1);
        g.shoot(2);
        CHECK.due("moved", g.echo(0, DISTANCE), 1500 + 5627 % 3 - 1);
        CHECK.due("moved", g.echo(1, DISTANCE), 3000 + 7419 % 3 - 1);
        g.set(1, 10);
        g.setS(1);
        g.setLevel(2000);
        g.shoot(1);
        CHECK.due("not below 0", g.echo(0, DISTANCE), 0);
        CHECK.due("not below 0", g.echo(1, DISTANCE), 0);
    }

    private static void strengthMeetsTheNeed() {
        EchoGauge g = new EchoGauge();
        g.addThing(499, 20);
        g.addThing(499, 19);
        g.addThing(500, 19);
        g.addThing(0, 19);
        g.setLevel(1000);
        g.shoot(1);
        CHECK.due("0 with 19", g.echo(0, CANDIDATE), 0);
        CHECK.due("499 with 20", g.echo(1, CANDIDATE), 1);
        CHECK.due("499 with 19", g.echo(2, CANDIDATE), 0);
        CHECK.due("500 with 19", g.echo(3, CANDIDATE), 1);
        CHECK.due("second at H", g.echo(5, CANDIDATE), 1);
        g.setLevel(999);
        g.shoot(1);
        CHECK.due("second behind H", g.echo(5, CANDIDATE), 0);
        g.set(2, 100);
        g.set(3, 20);
        g.shoot(1);
        CHECK.due("surface at 1001", g.echo(4, CANDIDATE), 1);
        CHECK.due("need", g.need(1001), 80);
        g.setLevel(1010);
        g.shoot(1);
        CHECK.due("surface at 990", g.echo(4, CANDIDATE), 0);
    }

    private static void guardDropsWhatDoesNotStay() {
        for (int distance : new int[] {259, 260, 640, 641}) {
            int inside = distance == 260 || distance == 640 ? 1 : 0;
            EchoGauge g = new EchoGauge();
            g.set(4, 1);
            g.addThing(distance, 50);
            for (int shot = 1; shot <= 3; shot++) {
                CHECK.due("pick", g.shoot(1), 1);
                int dropped = shot < 3 ? inside : 0;
                echoIs(g, 0, 0, distance, 50, 1, dropped, 1 - dropped);
                echoIs(g, 1, 3, 1500, 80, 1, 0, dropped);
            }
            CHECK.due("drops", g.gauge(11), 2 * inside);
        }
        guardCountsShotsOfShootAlone();
        guardTakesNoShotsForNoCandidates();
    }

    private static void guardTakesNoShotsForNoCandidates() {
        EchoGauge g = new EchoGauge();
        g.set(4, 1);
        g.setStirrer(0, 0, 100, 0, 0);
        g.addThing(5, 50);
        g.shoot(1);
        CHECK.due("first", g.echo(0, DROPPED), 1);
        g.removeThing(0);
        g.shoot(2);
        g.addThing(5, 50);
        for (int shot = 1; shot <= 3; shot++) {
            g.shoot(1);
            CHECK.due("shot " + shot + " behind a gap", g.echo(0, DROPPED), shot < 3 ? 1 : 0);
        }
    }

    private static void guardCountsShotsOfShootAlone() {
        EchoGauge g = new EchoGauge();
        g.set(4, 1);
        g.addThing(400, 50);
        g.shoot(3);
        CHECK.due("drops", g.gauge(11), 2);
        g.removeThing(0);
        g.shoot(1);
        g.addThing(400, 50);
        g.learn(1);
        g.forget();
        g.shoot(1);
        CHECK.due("behind a gap", g.echo(0, DROPPED), 1);
        g.shoot(1);
        CHECK.due("second", g.echo(0, DROPPED), 1);
        g.learn(5);
        g.forget();
        g.shoot(1);
        CHECK.due("third", g.echo(0, DROPPED), 0);
        CHECK.due("drops", g.gauge(11), 4);
    }

    private static void guardTellsDistancesApart() {
        int[] moves = {15, 16, -15, -16};
        for (int move : moves) {
            EchoGauge g = new EchoGauge();
            g.addThing(400, 50);
            g.shoot(2);
            g.removeThing(0);
            g.addThing(400 + move, 50);
            g.set(4, 1);
            g.shoot(1);
            CHECK.due("moved by " + move, g.echo(0, DROPPED), Math.abs(move) > 15 ? 1 : 0);
        }
        EchoGauge g = new EchoGauge();
        g.addThing(400, 50);
        g.mask(400, true);
        g.shoot(1);
        g.forget();
        g.set(4, 1);
        g.shoot(1);
        g.mask(400, true);
        g.undo();
        g.shoot(1);
        CHECK.due("as it was looked at then", g.echo(0, DROPPED), 1);
        g.shoot(1);
        CHECK.due("as it was looked at then", g.echo(0, DROPPED), 0);
        g.undo();
        g.undo();
        g.shoot(1);
        CHECK.due("as it was looked at then, behind undo", g.echo(0, DROPPED), 1);
    }

    private static void modesPick() {
        EchoGauge g = new EchoGauge();
        g.addThing(100, 30);
        g.addThing(200, 90);
        g.addThing(300, 90);
        g.setFoam(100);
        g.set(6, 9);
        g.set(5, 2);
        g.shoot(1);
        CHECK.due("nothing told, the first", g.pick(0), 100);
        g.set(5, 1);
        g.shoot(1);
        CHECK.due("the strongest, the first of several", g.pick(0), 200);
        g.set(5, 0);
        g.shoot(1);
        CHECK.due("the first", g.pick(0), 100);
        g.set(6, 1);
        g.set(5, 1);
        g.shoot(1);
        CHECK.due("told", g.gauge(2), 200);
        g.removeThing(1);
        g.set(5, 2);
        g.shoot(1);
        CHECK.due("two as near, the first", g.pick(0), 100);
        g.set(7, 1);
        g.removeThing(0);
        g.shoot(1);
        CHECK.due("the nearest", g.pick(0), 300);
        g.removeThing(0);
        g.setLevel(1650);
        g.shoot(1);
        CHECK.due("the nearest", g.pick(0), 250);
    }

    private static void alarmsHaveMargins() {
        EchoGauge g = new EchoGauge();
        g.set(6, 1);
        g.set(7, 1);
        int[] levels = {201, 200, 220, 221, 1799, 1800, 1780, 1779, 1900, 100, 1850, 1780, 220};
        int[] alarms = {0, 1, 1, 0, 0, 2, 2, 0, 2, 1, 2, 2, 0};
        int[] begun = {0, 1, 1, 1, 1, 2, 2, 2, 3, 4, 5, 5, 5};
        for (int i = 0; i < levels.length; i++) {
            g.setLevel(levels[i]);
            g.shoot(1);
            CHECK.due("alarm at " + levels[i], g.gauge(5), alarms[i]);
            CHECK.due("begun at " + levels[i], g.gauge(12), begun[i]);
        }
        g.set(9, 220);
        CHECK.due("with the next shot", g.gauge(5), 0);
        g.learn(1);
        CHECK.due("with the next shot of shoot()", g.gauge(5), 0);
        g.shoot(1);
        CHECK.due("low limit", g.gauge(5), 1);
        g.set(8, 2);
        g.set(0, 100);
        g.shoot(1);
        CHECK.due("still told", g.gauge(5), 1);
        g.shoot(1);
        CHECK.due("none told", g.gauge(5), 0);
        CHECK.due("none told", g.gauge(3), -1);
    }

    private static void patienceEnds() {
        EchoGauge g = new EchoGauge();
        g.set(8, 2);
        g.shoot(5);
        g.set(0, 100);
        g.shoot(2);
        row("gauge", g::gauge, 7, 5, 1500, 500, 0, 0, 0, 0, 5, 3, 1500);
        g.shoot(1);
        CHECK.due("misses", g.gauge(4), 1);
        CHECK.due("told", g.gauge(2), 1500);
        CHECK.due("pick", g.pick(4), 1500);
        g.shoot(1);
        row("gauge", g::gauge, 9, 5, -1, -1, 2, 0, 0, 0, 5, 0, -1);
        CHECK.due("pick", g.pick(4), -1);
        g.shoot(1);
        CHECK.due("misses", g.gauge(4), 3);
        g.set(8, 5);
        g.set(0, 0);
        g.shoot(2);
        CHECK.due("misses", g.gauge(4), 5);
        CHECK.due("misses reach the patience again", g.gauge(9), 0);
        g.shoot(3);
        CHECK.due("misses", g.gauge(4), 0);
        CHECK.due("told", g.gauge(2), 1500);
    }

    private static void smoothingComesNearer() {
        EchoGauge g = new EchoGauge();
        g.set(6, 1);
        g.shoot(1);
        g.setLevel(507);
        g.shoot(1);
        CHECK.due("cut towards 0", g.gauge(2), 1499);
        g.shoot(1);
        CHECK.due("cut towards 0", g.gauge(2), 1498);
        g.shoot(1);
        CHECK.due("cut towards 0", g.gauge(2), 1497);
        g.shoot(1);
        CHECK.due("cut towards 0", g.gauge(2), 1496);
        g.shoot(1);
        CHECK.due("becomes the median", g.gauge(2), 1493);
        g.setLevel(500);
        g.set(7, 20);
        g.shoot(1);
        CHECK.due("becomes the median", g.gauge(2), 1500);
    }

    private static void setS() {
        promise(10, "setS");
        EchoGauge g = new EchoGauge();
        CHECK.due("setS", g.setS(2147483647), 1);
        CHECK.due("setS", g.setS(0), 2147483647);
        CHECK.due("s", g.tank(11), 0);
        CHECK.badArgument("setS(-1)", g, () -> g.setS(-1));
        CHECK.badArgument("setS(MIN)", g, () -> g.setS(Integer.MIN_VALUE));
        CHECK.due("undo", g.undo(), 1);
        CHECK.due("s", g.tank(11), 2147483647);
        long s = 2147483647L;
        for (int i = 0; i < 2; i++) {
            s = (1103515245L * s + 12345L) % 2147483648L;
        }
        g.shoot(1);
        CHECK.due("s behind two numbers", g.tank(11), s);
    }

    private static void mask() {
        promise(11, "mask");
        EchoGauge g = new EchoGauge();
        CHECK.due("mask", g.mask(1519, true), 0);
        CHECK.due("mask", g.mask(1500, true), 1);
        CHECK.due("masked", g.gauge(6), 1);
        CHECK.due("masked", g.isMasked(1499), false);
        CHECK.due("masked", g.isMasked(1520), false);
        CHECK.due("no pick", g.shoot(1), 0);
        echoIs(g, 0, 3, 1500, 80, 0, 0, 0);
        CHECK.due("mask", g.mask(1510, false), 1);
        CHECK.due("mask", g.mask(1510, false), 0);
        CHECK.due("masked", g.gauge(6), 0);
        CHECK.due("looked at with the next shot", g.echo(0, CANDIDATE), 0);
        CHECK.due("mask", g.mask(0, true), 0);
        CHECK.due("mask", g.mask(10000, true), 0);
        CHECK.due("masked", g.gauge(6), 2);
        CHECK.badArgument("mask(-1)", g, () -> g.mask(-1, true));
        CHECK.badArgument("mask(10001)", g, () -> g.mask(10001, false));
        CHECK.due("undo", g.undo(), 3);
        CHECK.due("masked", g.isMasked(10000), false);
        CHECK.due("masked", g.isMasked(0), true);
    }

    private static void learn() {
        promise(12, "learn");
        EchoGauge g = new EchoGauge();
        g.addThing(100, 1);
        g.addThing(119, 100);
        g.setStirrer(2, 300, 600, 180, 0);
        g.setFoam(50);
        CHECK.due("learn", g.learn(1), 2);
        CHECK.due("learn", g.learn(1), 3);
        CHECK.due("learn", g.learn(50), 3);
        CHECK.due("masked", g.isMasked(300) && g.isMasked(600) && g.isMasked(100), true);
        CHECK.due("masked", g.isMasked(1450) || g.isMasked(1500), false);
        CHECK.due("shots", g.gauge(0), 0);
        CHECK.due("history", g.gauge(8), 0);
        CHECK.due("misses", g.gauge(4), 0);
        CHECK.due("echoes", g.gauge(7), 4);
        echoIs(g, 0, 0, 100, 1, 0, 0, 0);
        CHECK.badArgument("learn(0)", g, () -> g.learn(0));
        CHECK.badArgument("learn(51)", g, () -> g.learn(51));
        CHECK.due("undo", g.undo(), 3);
        CHECK.due("undo", g.undo(), 2);
        CHECK.due("masked", g.gauge(6), 2);
        onlyDistancesInTheTankAreLearned();
    }

    private static void onlyDistancesInTheTankAreLearned() {
        EchoGauge g = new EchoGauge();
        g.begin(500);
        g.setLevel(0);
        g.addThing(499, 50);
        g.set(1, 20);
        boolean behind = false;
        boolean at = false;
        for (int i = 0; i < 120; i++) {
            g.forget();
            g.learn(1);
            int expected = 0;
            for (int k = 0; k < 3; k++) {
                if (g.echo(k, KIND) == 0 && g.echo(k, DISTANCE) <= 500) {
                    at |= g.echo(k, DISTANCE) == 500;
                    expected = 1;
                    CHECK.due("masked", g.isMasked(g.echo(k, DISTANCE)), true);
                }
            }
            behind |= expected == 0;
            CHECK.due("masked bins", g.gauge(6), expected);
        }
        CHECK.due("one was behind H", behind, true);
        CHECK.due("one was at H", at, true);
        g.set(0, 100);
        g.forget();
        CHECK.due("lost echoes are not learned", g.learn(5), 0);
    }

    private static void forget() {
        promise(13, "forget");
        EchoGauge g = new EchoGauge();
        CHECK.due("forget", g.forget(), 0);
        g.mask(0, true);
        g.mask(10000, true);
        CHECK.due("forget", g.forget(), 2);
        CHECK.due("masked", g.gauge(6), 0);
        CHECK.due("masked", g.isMasked(10000), false);
        CHECK.due("undo", g.undo(), 3);
        CHECK.due("masked", g.gauge(6), 2);
        CHECK.due("masked", g.isMasked(10000), true);
    }

    private static void shoot() {
        promise(14, "shoot");
        EchoGauge g = new EchoGauge();
        CHECK.due("shoot", g.shoot(500), 500);
        CHECK.due("shots", g.gauge(0), 500);
        CHECK.due("phase", g.tank(8), 500 * 47 % 360);
        g.setLevel(2000);
        g.mask(0, true);
        g.setFlow(-40);
        CHECK.due("shoot", g.shoot(2), 2);
        CHECK.due("told", g.gauge(2), 1500);
        g.setFlow(40);
        CHECK.due("shoot", g.shoot(4), 1);
        CHECK.due("picks so far", g.gauge(1), 503);
        CHECK.badArgument("shoot(0)", g, () -> g.shoot(0));
        CHECK.badArgument("shoot(501)", g, () -> g.shoot(501));
        CHECK.badArgument("shoot(-5)", g, () -> g.shoot(-5));
        CHECK.due("undo", g.undo(), 3);
        CHECK.due("shots", g.gauge(0), 502);
        CHECK.due("level", g.tank(1), 1920);
    }

    private static void echo() {
        promise(15, "echo");
        EchoGauge g = new EchoGauge();
        CHECK.due("no shot", g.echo(0, 0), -1);
        g.shoot(1);
        echoIs(g, 0, 3, 1500, 80, 1, 0, 1);
        echoIs(g, 1, 4, 3000, 40, 0, 0, 0);
        echoIs(g, 2, -1, -1, -1, -1, -1, -1);
        CHECK.due("far", g.echo(Integer.MAX_VALUE, 5), -1);
        CHECK.badArgument("echo(-1, 0)", g, () -> g.echo(-1, 0));
        CHECK.badArgument("echo(0, -1)", g, () -> g.echo(0, -1));
        CHECK.badArgument("echo(0, 6)", g, () -> g.echo(0, 6));
        CHECK.badArgument("echo(9, 6)", g, () -> g.echo(9, 6));
        g.addThing(900, 70);
        g.learn(1);
        echoIs(g, 0, 0, 900, 70, 0, 0, 0);
        echoIs(g, 1, 3, 1500, 80, 0, 0, 0);
        g.undo();
        CHECK.due("echoes", g.gauge(7), 2);
        echoIs(g, 0, 3, 1500, 80, 1, 0, 1);
    }

    private static void pick() {
        promise(16, "pick");
        EchoGauge g = new EchoGauge();
        for (int i = 1; i <= 6; i++) {
            g.setLevel(100 * i);
            g.set(0, i == 5 ? 100 : 0);
            g.shoot(1);
        }
        row("pick", g::pick, 1400, -1, 1600, 1700, 1800, -1);
        CHECK.due("far", g.pick(Integer.MAX_VALUE), -1);
        CHECK.badArgument("pick(-1)", g, () -> g.pick(-1));
        g.learn(3);
        CHECK.due("pick", g.pick(0), 1400);
    }

    private static void isMasked() {
        promise(17, "isMasked");
        EchoGauge g = new EchoGauge();
        g.mask(1290, true);
        CHECK.due("isMasked", g.isMasked(1280), true);
        CHECK.due("isMasked", g.isMasked(1299), true);
        CHECK.due("isMasked", g.isMasked(1279), false);
        CHECK.due("isMasked", g.isMasked(1300), false);
        CHECK.due("isMasked", g.isMasked(0), false);
        CHECK.due("isMasked", g.isMasked(10000), false);
        CHECK.badArgument("isMasked(-1)", g, () -> g.isMasked(-1));
        CHECK.badArgument("isMasked(10001)", g, () -> g.isMasked(10001));
    }

    private static void need() {
        promise(18, "need");
        EchoGauge g = new EchoGauge();
        CHECK.due("need", g.need(499), 20);
        CHECK.due("need", g.need(500), 19);
        CHECK.due("need", g.need(9499), 2);
        CHECK.due("need", g.need(10000), 1);
        g.set(3, 20);
        g.set(2, 100);
        CHECK.due("need", g.need(4950), 1);
        CHECK.due("need", g.need(4949), 2);
        CHECK.due("need", g.need(0), 100);
        g.set(3, 0);
        CHECK.due("need", g.need(10000), 100);
        CHECK.badArgument("need(-1)", g, () -> g.need(-1));
        CHECK.badArgument("need(10001)", g, () -> g.need(10001));
    }

    private static void thing() {
        promise(19, "thing");
        EchoGauge g = new EchoGauge();
        g.addThing(123, 45);
        CHECK.due("thing", g.thing(0, 0), 123);
        CHECK.due("thing", g.thing(0, 1), 45);
        CHECK.badIndex("thing(1, 0)", g, () -> g.thing(1, 0));
        CHECK.badIndex("thing(-1, 0)", g, () -> g.thing(-1, 0));
        CHECK.badIndex("thing(1, 2)", g, () -> g.thing(1, 2));
        CHECK.badArgument("thing(0, 2)", g, () -> g.thing(0, 2));
        CHECK.badArgument("thing(0, -1)", g, () -> g.thing(0, -1));
    }

    private static void angle() {
        promise(20, "angle");
        EchoGauge g = new EchoGauge();
        CHECK.badIndex("angle(0)", g, () -> g.angle(0));
        g.setStirrer(5, 300, 600, 100, 20);
        row("angle", g::angle, 0, 72, 144, 216, 288);
        g.shoot(2);
        row("angle", g::angle, 200, 272, 344, 56, 128);
        g.setStirrer(6, 300, 600, 100, 20);
        row("angle", g::angle, 200, 260, 320, 20, 80, 140);
        g.setStirrer(5, 300, 600, 100, 20);
        g.learn(1);
        CHECK.due("angle", g.angle(1), 12);
        CHECK.badIndex("angle(5)", g, () -> g.angle(5));
        CHECK.badIndex("angle(-1)", g, () -> g.angle(-1));
    }

    private static void tank() {
        promise(21, "tank");
        EchoGauge g = new EchoGauge();
        g.begin(3000);
        g.setLevel(700);
        g.setFlow(-9);
        g.setFoam(8);
        g.addThing(1, 1);
        g.addThing(2, 1);
        g.setStirrer(3, 44, 55, 66, 77);
        g.setS(88);
        row("tank", g::tank, 3000, 700, -9, 8, 2, 3, 44, 55, 0, 66, 77, 88);
        g.shoot(6);
        CHECK.due("level", g.tank(1), 646);
        CHECK.due("phase", g.tank(8), 36);
        CHECK.badArgument("tank(-1)", g, () -> g.tank(-1));
        CHECK.badArgument("tank(12)", g, () -> g.tank(12));
    }

    private static void setting() {
        promise(22, "setting");
        EchoGauge g = new EchoGauge();
        row("setting", g::setting, FIRST_SETTINGS);
        int[] values = {7, 8, 9, 10, 1, 2, 3, 11, 12, 13, 14, 15};
        for (int what = 0; what < 12; what++) {
            g.set(what, values[what]);
        }
        row("setting", g::setting, values);
        CHECK.badArgument("setting(-1)", g, () -> g.setting(-1));
        CHECK.badArgument("setting(12)", g, () -> g.setting(12));
    }

    private static void gauge() {
        promise(23, "gauge");
        EchoGauge g = new EchoGauge();
        g.mask(700, true);
        g.shoot(2);
        row("gauge", g::gauge, 2, 2, -1, -1, 2, 0, 1, 2, 2, 2, -1, 0, 0);
        g.shoot(1);
        row("gauge", g::gauge, 3, 3, 1500, 500, 0, 0, 1, 2, 3, 3, 1500, 0, 0);
        g.setLevel(300);
        g.shoot(2);
        row("gauge", g::gauge, 5, 5, 1500, 500, 0, 0, 1, 2, 5, 5, 1500, 0, 0);
        g.shoot(1);
        row("gauge", g::gauge, 6, 6, 1550, 450, 0, 0, 1, 2, 5, 5, 1700, 0, 0);
        g.set(6, 4);
        CHECK.due("median of four is the second", g.gauge(10), 1700);
        g.set(6, 9);
        CHECK.due("median with four of nine", g.gauge(10), -1);
        CHECK.badArgument("gauge(-1)", g, () -> g.gauge(-1));
        CHECK.badArgument("gauge(13)", g, () -> g.gauge(13));
        medianIsTheLowerOne();
    }

    private static void medianIsTheLowerOne() {
        EchoGauge g = new EchoGauge();
        g.set(6, 4);
        int[] levels = {400, 900, 100, 600};
        int[] medians = {-1, 1100, 1600, 1400};
        for (int i = 0; i < levels.length; i++) {
            g.setLevel(levels[i]);
            g.shoot(1);
            CHECK.due("median", g.gauge(10), medians[i]);
        }
        g.set(0, 100);
        g.shoot(1);
        CHECK.due("median of 1100, 1400, 1900", g.gauge(10), 1400);
        g.shoot(1);
        CHECK.due("median of 1400, 1900", g.gauge(10), 1400);
        g.shoot(1);
        CHECK.due("median of one of four", g.gauge(10), -1);
        g.set(0, 0);
        for (int level = 597; level <= 600; level++) {
            g.setLevel(level);
            g.shoot(1);
        }
        CHECK.due("median of 1400 to 1403", g.gauge(10), 1401);
    }

    private static void meanPick() {
        promise(24, "meanPick");
        EchoGauge g = new EchoGauge();
        CHECK.due("meanPick", g.meanPick(), -1.0);
        g.shoot(1);
        g.setLevel(501);
        g.shoot(1);
        CHECK.due("meanPick", g.meanPick(), 1499.5);
        g.shoot(1);
        CHECK.due("meanPick", g.meanPick(), 4498.0 / 3.0);
        g.set(0, 100);
        g.shoot(4);
        CHECK.due("meanPick", g.meanPick(), 1499.0);
        g.shoot(1);
        CHECK.due("meanPick", g.meanPick(), -1.0);
        g.setLevel(2000);
        g.set(0, 0);
        g.shoot(1);
        CHECK.due("meanPick", g.meanPick(), 0.0);
    }

    private static void toldAfter() {
        promise(25, "toldAfter");
        EchoGauge g = new EchoGauge();
        g.set(1, 5);
        long before = g.digest();
        CHECK.due("toldAfter", g.toldAfter(0), -1);
        CHECK.due("toldAfter", g.toldAfter(2), -1);
        CHECK.due("toldAfter", g.toldAfter(3), 3);
        CHECK.due("toldAfter", g.toldAfter(500), 3);
        CHECK.due("nothing changed", g.digest(), before);
        CHECK.badArgument("toldAfter(-1)", g, () -> g.toldAfter(-1));
        CHECK.badArgument("toldAfter(501)", g, () -> g.toldAfter(501));
        g.shoot(2);
        CHECK.due("toldAfter", g.toldAfter(1), 1);
        g.shoot(1);
        CHECK.due("toldAfter", g.toldAfter(0), 0);
        CHECK.due("toldAfter", g.toldAfter(9), 0);
        g.set(0, 100);
        g.shoot(12);
        CHECK.due("toldAfter", g.toldAfter(500), -1);
    }

    private static void worstError() {
        promise(26, "worstError");
        EchoGauge g = new EchoGauge();
        g.setFoam(100);
        long before = g.digest();
        CHECK.due("none told", g.worstError(2), 0);
        CHECK.due("foam", g.worstError(3), 100);
        CHECK.due("nothing changed", g.digest(), before);
        g.setFoam(0);
        g.shoot(3);
        g.setLevel(700);
        CHECK.due("level above what is told", g.worstError(1), 200);
        g.setLevel(100);
        CHECK.due("level below what is told", g.worstError(200), 400);
        g.setFlow(-10);
        CHECK.due("behind the flow", g.worstError(1), 410);
        CHECK.badArgument("worstError(0)", g, () -> g.worstError(0));
        CHECK.badArgument("worstError(201)", g, () -> g.worstError(201));
    }

    private static void bestMode() {
        promise(27, "bestMode");
        EchoGauge g = new EchoGauge();
        CHECK.due("all as good", g.bestMode(1), 0);
        g.addThing(400, 30);
        g.set(5, 2);
        long before = g.digest();
        CHECK.due("the strongest is the surface", g.bestMode(200), 1);
        CHECK.due("nothing changed", g.digest(), before);
        CHECK.due("mode", g.setting(5), 2);
        g.removeThing(0);
        g.shoot(5);
        g.addThing(400, 30);
        g.addThing(500, 90);
        CHECK.due("the nearest is the surface", g.bestMode(20), 2);
        g.mask(400, true);
        g.mask(500, true);
        CHECK.due("the first is the surface", g.bestMode(20), 0);
        theBestModeIsNotTheLastThatIsBetter();
        CHECK.badArgument("bestMode(0)", g, () -> g.bestMode(0));
        CHECK.badArgument("bestMode(201)", g, () -> g.bestMode(201));
    }

    private static void theBestModeIsNotTheLastThatIsBetter() {
        EchoGauge g = new EchoGauge();
        g.setLevel(600);
        g.shoot(5);
        g.setLevel(500);
        g.addThing(300, 30);
        g.addThing(1390, 30);
        g.set(7, 1);
        g.set(6, 1);
        g.set(5, 0);
        CHECK.due("first", g.worstError(5), 1200);
        g.set(5, 1);
        CHECK.due("strongest", g.worstError(5), 0);
        g.set(5, 2);
        CHECK.due("nearest", g.worstError(5), 110);
        CHECK.due("bestMode", g.bestMode(5), 1);
    }

    private static void type() {
        promise(28, "type");
        EchoGauge g = new EchoGauge();
        CHECK.due("type", g.type(0), 1);
        CHECK.due("type", g.type(127), 2);
        CHECK.badArgument("type(-1)", g, () -> g.type(-1));
        CHECK.badArgument("type(128)", g, () -> g.type(128));
        for (int i = 3; i <= 150; i++) {
            CHECK.due("type", g.type(' '), i);
        }
        CHECK.badState("type(32)", g, () -> g.type(32));
        CHECK.badArgument("type(128)", g, () -> g.type(128));
        CHECK.badState("type saves nothing", g, g::undo);
    }

    private static void clearCommands() {
        promise(29, "clearCommands");
        EchoGauge g = new EchoGauge();
        CHECK.due("clearCommands", g.clearCommands(), 0);
        typeAll(g, "level 7;");
        CHECK.due("clearCommands", g.clearCommands(), 8);
        CHECK.due("clearCommands", g.clearCommands(), 0);
        CHECK.due("nothing to run", g.runCommands(), 0);
        CHECK.due("level", g.tank(1), 500);
        CHECK.due("clearCommands saves nothing", g.undo(), 0);
    }

    private static void runCommands() {
        promise(30, "runCommands");
        EchoGauge g = new EchoGauge();
        CHECK.due("all words", run(g, " tank 3000;level 00700 ;flow 7;foam  8;thing 900 50;"
            + "blades 2 100 200 30 40;set 5 1;learn 2;shoot 3;  "), 9);
        row("tank", g::tank, 3000, 721 + 14, 7, 8, 1, 2, 100, 200, 150, 30, 40);
        CHECK.due("mode", g.setting(5), 1);
        CHECK.due("masked", g.gauge(6), 2);
        CHECK.due("shots", g.gauge(0), 3);
        CHECK.due("one state", g.undo(), 0);
        CHECK.due("depth", g.tank(0), 2000);
        CHECK.due("the text stays", g.runCommands(), 9);
        CHECK.due("again", g.runCommands(), 9);
        CHECK.due("undo", g.undo(), 1);
        runsStopWhereACallWouldThrow();
        runsFindFaults();
    }

    private static void runsStopWhereACallWouldThrow() {
        String[] refused = {"tank 499;", "level 2001;", "flow 201;", "foam 501;", "thing 10001 5;", "thing 5 0;",
            "blades 7 1 2 3 4;", "blades 1 2 2 3 4;", "blades 1 1 2 360 4;", "blades 1 1 2 3 91;", "set 12 0;",
            "set 2 0;", "set 10 199;", "learn 0;", "learn 51;", "shoot 0;", "shoot 501;", "shoot 99999;"};
        for (String command : refused) {
            EchoGauge g = new EchoGauge();
            CHECK.due(command, run(g, "level 9;flow 9;" + command + "flow 8;"), 2);
            CHECK.due("flow behind " + command, g.tank(2), 9);
            CHECK.due("undo behind " + command, g.undo(), 0);
            CHECK.due("flow", g.tank(2), 0);
            CHECK.due(command, run(g, command), 0);
            CHECK.due("undo behind " + command, g.undo(), 0);
        }
        EchoGauge g = new EchoGauge();
        CHECK.due("things", run(g, "thing 1 1;thing 2 2;thing 3 3;thing 4 4;thing 5 5;thing 6 6;thing 7 7;"), 6);
        CHECK.due("things", g.tank(4), 6);
        CHECK.due("level in a new tank", run(g, "level 2500;tank 3000;level 2500;"), 0);
        CHECK.due("level in a new tank", run(g, "tank 3000;level 2500;"), 2);
        CHECK.due("level", g.tank(1), 2500);
    }

    private static void runsFindFaults() {
        EchoGauge g = new EchoGauge();
        CHECK.due("spaces alone", run(g, "   "), 0);
        CHECK.due("spaces alone save a state", g.undo(), 0);
        faultIs("lev", 0);
        faultIs("xevel 5;", 0);
        faultIs("levelz 5;", 0);
        faultIs("level{ 5;", 5);
        faultIs("level` 5;", 5);
        faultIs("level /;", 6);
        faultIs("level :;", 6);
        faultIs("  levels 5;", 2);
        faultIs("level", 5);
        faultIs("level ", 6);
        faultIs("level 5", 7);
        faultIs("level 5 ", 8);
        faultIs("level;", 5);
        faultIs("level5;", 5);
        faultIs("level ;", 6);
        faultIs("level x;", 6);
        faultIs("level 5x;", 7);
        faultIs("level 5 6;", 8);
        faultIs("level 123456;", 11);
        faultIs("thing 5;", 7);
        faultIs("thing 123456 7;", 11);
        faultIs("thing 5 6;;", 10);
        faultIs(";", 0);
        faultIs("Level 5;", 0);
        faultIs("leveL 5;", 0);
        faultIs("levelL 5;", 5);
        faultIs("level 5;5", 8);
        faultIs("level 5;xx", 8);
        faultIs("level -5;", 6);
        faultIs("level\t5;", 5);
        faultIs("level 5;\0", 8);
        faultIs("blades 1 2 3 4;", 14);
        faultIs("begin 500;", 0);
        faultIs("thinglevel 5;", 0);
        faultIs("shot 5; level 5;", 0);
        StringBuilder full = new StringBuilder("level 5;");
        while (full.length() < 145) {
            full.append(' ');
        }
        faultIs(full + "level", 150);
        CHECK.due("a full text", run(g, full + "     "), 1);
    }

    private static void undo() {
        promise(31, "undo");
        EchoGauge g = new EchoGauge();
        CHECK.badState("undo", g, g::undo);
        long[] digests = new long[8];
        for (int i = 0; i < 8; i++) {
            digests[i] = g.digest();
            change(g, i);
        }
        g.type('a');
        for (int i = 7; i >= 4; i--) {
            CHECK.due("undo", g.undo(), i - 4);
        }
        CHECK.due("level", g.tank(1), 300);
        CHECK.due("text stays", g.clearCommands(), 1);
        CHECK.badState("undo", g, g::undo);
        eachStateComesBack();
        accountsComeBack();
        guardRowsComeBack();
    }

    private static void change(EchoGauge g, int i) {
        switch (i) {
            case 0: g.shoot(5); break;
            case 1: g.addThing(400, 50); break;
            case 2: g.set(4, 1); break;
            case 3: g.setLevel(300); break;
            case 4: g.learn(4); break;
            case 5: g.setStirrer(2, 100, 200, 3, 4); break;
            case 6: g.shoot(20); break;
            default: g.begin(900); break;
        }
    }

    private static void eachStateComesBack() {
        for (int i = 0; i < 8; i++) {
            EchoGauge g = new EchoGauge();
            EchoGauge other = new EchoGauge();
            for (int k = 0; k < i; k++) {
                change(g, k);
                change(other, k);
            }
            change(g, i);
            g.undo();
            if (i < 4) {
                CHECK.due("digest behind undo of " + i, g.digest(), other.digest());
            }
            g.shoot(2);
            other.shoot(2);
            row("tank", g::tank, all(other::tank, 12));
            row("setting", g::setting, all(other::setting, 12));
            row("gauge", g::gauge, all(other::gauge, 13));
            row("pick", g::pick, all(other::pick, 9));
            row("dropped", k -> g.echo(k, DROPPED), all(k -> other.echo(k, DROPPED), 9));
            row("picked", k -> g.echo(k, PICKED), all(k -> other.echo(k, PICKED), 9));
            row("strength", k -> g.echo(k, STRENGTH), all(k -> other.echo(k, STRENGTH), 9));
        }
    }

    private static void accountsComeBack() {
        EchoGauge g = new EchoGauge();
        g.setLevel(100);
        g.addThing(400, 15);
        g.set(4, 1);
        g.shoot(5);
        row("gauge", g::gauge, 5, 5, 1900, 100, 0, 1, 0, 3, 5, 5, 1900, 0, 1);
        g.set(2, 15);
        g.shoot(1);
        row("gauge", g::gauge, 6, 6, 1900, 100, 0, 1, 0, 3, 5, 5, 1900, 1, 1);
        g.set(0, 100);
        g.shoot(14);
        row("gauge", g::gauge, 20, 6, -1, -1, 12, 0, 0, 0, 5, 0, -1, 1, 1);
        g.undo();
        row("gauge", g::gauge, 6, 6, 1900, 100, 0, 1, 0, 3, 5, 5, 1900, 1, 1);
        g.undo();
        g.undo();
        row("gauge", g::gauge, 5, 5, 1900, 100, 0, 1, 0, 3, 5, 5, 1900, 0, 1);
        g.undo();
        g.shoot(1);
        CHECK.due("drops", g.gauge(11), 0);
    }

    private static void guardRowsComeBack() {
        for (int before = 0; before <= 2; before++) {
            EchoGauge g = new EchoGauge();
            g.addThing(400, 50);
            g.set(4, 1);
            for (int shot = 0; shot < before; shot++) {
                g.shoot(1);
            }
            g.shoot(3);
            CHECK.due("stays", g.echo(0, DROPPED), 0);
            g.undo();
            g.shoot(1);
            CHECK.due("behind undo and " + before, g.echo(0, DROPPED), before < 2 ? 1 : 0);
            EchoGauge forecast = new EchoGauge();
            forecast.shoot(2);
            forecast.addThing(400, 50);
            forecast.set(4, 1);
            forecast.set(6, 1);
            forecast.set(7, 1);
            CHECK.due("two are dropped", forecast.worstError(2), 0);
            CHECK.due("two are dropped", forecast.worstError(3), 1100);
            CHECK.due("two are dropped", forecast.worstError(2), 0);
        }
    }

    private static int[] all(java.util.function.IntUnaryOperator call, int count) {
        int[] answers = new int[count];
        for (int i = 0; i < count; i++) {
            answers[i] = call.applyAsInt(i);
        }
        return answers;
    }

    private static void digest() {
        promise(32, "digest");
        EchoGauge g = new EchoGauge();
        CHECK.due("digest", g.digest(), digestOf(g, 0, 0));
        g.mask(10000, true);
        g.addThing(400, 30);
        g.addThing(300, 40);
        CHECK.due("digest", g.digest(), digestOf(g, 3, 0));
        g.setStirrer(6, 200, 300, 59, 90);
        g.shoot(8);
        g.type(' ');
        CHECK.due("digest", g.digest(), digestOf(g, 4, 1));
        g.learn(3);
        g.set(6, 9);
        CHECK.due("digest", g.digest(), digestOf(g, 4, 1));
        g.undo();
        CHECK.due("digest", g.digest(), digestOf(g, 3, 1));
        long before = g.digest();
        g.digest();
        CHECK.due("digest changes nothing", g.digest(), before);
    }

    private static long digestOf(EchoGauge g, int states, int length) {
        java.util.List<Long> values = new java.util.ArrayList<>();
        values.add((long) states);
        values.add((long) length);
        addAll(values, g::tank, 12);
        addAll(values, g::setting, 12);
        addAll(values, g::gauge, 13);
        for (int i = 0; i < g.tank(4); i++) {
            int number = i;
            addAll(values, what -> g.thing(number, what), 2);
        }
        addAll(values, g::angle, g.tank(5));
        for (int i = 0; i < g.gauge(7); i++) {
            int number = i;
            addAll(values, what -> g.echo(number, what), 6);
        }
        addAll(values, g::pick, g.setting(6));
        addAll(values, bin -> g.isMasked(20 * bin) ? 1 : 0, 501);
        long h = 18907L;
        for (long value : values) {
            h = 31L * h + value;
        }
        return h;
    }

    private static void addAll(java.util.List<Long> values, java.util.function.IntUnaryOperator call, int count) {
        for (int answer : all(call, count)) {
            values.add((long) answer);
        }
    }
}

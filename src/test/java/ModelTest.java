import java.util.Random;
import java.util.function.IntSupplier;

/** Runs of calls by a fixed row of numbers, answered by EchoGauge and by the Model alike. */
public final class ModelTest {
    private static final int RUNS = 600;
    private static final int CALLS = 512;

    private final Check check;
    private final Random random;
    private final EchoGauge gauge = new EchoGauge();
    private final Model model = new Model();
    /** Some runs have wild arguments, others stay mostly where things happen. */
    private final boolean wild;

    private ModelTest(Check check, int run) {
        this.check = check;
        this.random = new Random(run);
        this.wild = run % 4 == 0;
    }

    public static void main(String[] args) {
        Check check = new Check();
        for (int run = 0; run < RUNS; run++) {
            check.at("run " + run);
            ModelTest test = new ModelTest(check, run);
            for (int call = 0; call < CALLS / 2; call++) {
                test.callBoth();
            }
        }
        check.end();
    }

    private int among(int least, int most) {
        if (random.nextInt(wild ? 6 : 60) == 0) {
            int[] edges = {least - 1, most + 1, least, most, Integer.MIN_VALUE, Integer.MAX_VALUE, -1};
            return edges[random.nextInt(edges.length)];
        }
        return least + random.nextInt(most - least + 1);
    }

    private int oneOf(int... values) {
        return values[random.nextInt(values.length)];
    }

    private static long answer(IntSupplier call) {
        try {
            return call.getAsInt();
        } catch (IllegalArgumentException e) {
            return e.getClass() == IllegalArgumentException.class ? 1L << 40 : 9L << 40;
        } catch (IllegalStateException e) {
            return 2L << 40;
        } catch (IndexOutOfBoundsException e) {
            return e.getClass() == IndexOutOfBoundsException.class ? 3L << 40 : 8L << 40;
        }
    }

    private void both(String name, IntSupplier ofGauge, IntSupplier ofModel) {
        check.due(name, answer(ofGauge), answer(ofModel));
        check.due("digest behind " + name, gauge.digest(), model.digest());
    }

    private void callBoth() {
        switch (random.nextInt(30)) {
            case 0: if (random.nextInt(6) == 0) {
                int depth = oneOf(500, 2000, 1000, among(500, 10000));
                both("begin(" + depth + ")", () -> gauge.begin(depth), () -> model.begin(depth));
            }
                break;
            case 1: {
                int level = random.nextBoolean() ? among(0, 2000) : among(0, gauge.tank(0));
                both("setLevel(" + level + ")", () -> gauge.setLevel(level), () -> model.setLevel(level));
                break;
            }
            case 2: {
                int flow = random.nextBoolean() ? among(-20, 20) : among(-200, 200);
                both("setFlow(" + flow + ")", () -> gauge.setFlow(flow), () -> model.setFlow(flow));
                break;
            }
            case 3: {
                int foam = random.nextBoolean() ? 0 : among(0, 500);
                both("setFoam(" + foam + ")", () -> gauge.setFoam(foam), () -> model.setFoam(foam));
                break;
            }
            case 4: {
                int distance = random.nextBoolean() ? oneOf(300, 310, 600, 620, 500) : among(0, gauge.tank(0));
                int strength = random.nextBoolean() ? oneOf(60, 80, 15, 20) : among(1, 100);
                both("addThing(" + distance + ", " + strength + ")", () -> gauge.addThing(distance, strength),
                    () -> model.addThing(distance, strength));
                break;
            }
            case 5: {
                int thing = among(0, 5);
                both("removeThing(" + thing + ")", () -> gauge.removeThing(thing), () -> model.removeThing(thing));
                break;
            }
            case 6: {
                stirBoth();
                break;
            }
            case 7: case 8: case 9: {
                setBoth();
                break;
            }
            case 10: {
                int s = random.nextInt();
                both("setS(" + s + ")", () -> gauge.setS(s), () -> model.setS(s));
                break;
            }
            case 11: {
                int distance = random.nextBoolean() ? oneOf(300, 319, 320, 600) : among(0, 10000);
                boolean masked = random.nextBoolean();
                both("mask(" + distance + ", " + masked + ")", () -> gauge.mask(distance, masked),
                    () -> model.mask(distance, masked));
                break;
            }
            case 12: {
                int shots = random.nextBoolean() ? 1 : among(1, 50);
                both("learn(" + shots + ")", () -> gauge.learn(shots), () -> model.learn(shots));
                break;
            }
            case 13: both("forget()", gauge::forget, model::forget);
                break;
            case 14: case 15: case 16: case 17: case 18: {
                int shots = random.nextInt(4) > 0 ? oneOf(1, 1, 2, 3, 5) : among(1, 30);
                both("shoot(" + shots + ")", () -> gauge.shoot(shots), () -> model.shoot(shots));
                break;
            }
            case 19: case 20: case 21: askBoth();
                break;
            case 22: case 23: forecastBoth();
                break;
            case 24: case 25: case 26: case 27: runBoth();
                break;
            default: both("undo()", gauge::undo, model::undo);
                break;
        }
    }

    private void stirBoth() {
        int blades = among(0, 6);
        int upper = random.nextBoolean() ? 300 : among(0, 9999);
        int lower = random.nextBoolean() ? upper + 300 : among(0, 10000);
        int speed = oneOf(0, 47, 60, 90, 180, among(0, 359));
        int beam = oneOf(20, 90, among(0, 90));
        both("setStirrer(" + blades + ", " + upper + ", " + lower + ", " + speed + ", " + beam + ")",
            () -> gauge.setStirrer(blades, upper, lower, speed, beam),
            () -> model.setStirrer(blades, upper, lower, speed, beam));
    }

    private void setBoth() {
        int what = among(0, 11);
        int[] most = {100, 20, 100, 20, 1, 2, 9, 20, 99, 10000, 10000, 500};
        int value = what < 0 || what > 11 ? 1 : among(0, most[what]);
        if (what == 0 && random.nextBoolean()) {
            value = 0;
        }
        if (what == 8 && random.nextBoolean()) {
            value = 1 + random.nextInt(4);
        }
        if (what == 2 || what == 9 || what == 10) {
            value = random.nextBoolean() ? value % 25 : value % 2000;
        }
        int chosen = value;
        both("set(" + what + ", " + chosen + ")", () -> gauge.set(what, chosen), () -> model.set(what, chosen));
    }

    private void askBoth() {
        int first = among(0, 12);
        int second = among(0, 5);
        int distance = among(0, 10000);
        both("echo(" + first + ", " + second + ")", () -> gauge.echo(first, second), () -> model.echo(first, second));
        both("pick(" + first + ")", () -> gauge.pick(first), () -> model.pick(first));
        both("isMasked(" + distance + ")", () -> gauge.isMasked(distance) ? 1 : 0, () -> model.isMasked(distance));
        both("need(" + distance + ")", () -> gauge.need(distance), () -> model.need(distance));
        both("thing(" + second + ", " + first + ")", () -> gauge.thing(second, first),
            () -> model.thing(second, first));
        both("thing(" + second + ", 1)", () -> gauge.thing(second, 1), () -> model.thing(second, 1));
        both("angle(" + second + ")", () -> gauge.angle(second), () -> model.angle(second));
        both("tank(" + first + ")", () -> gauge.tank(first), () -> model.tank(first));
        both("setting(" + first + ")", () -> gauge.setting(first), () -> model.setting(first));
        both("gauge(" + first + ")", () -> gauge.gauge(first), () -> model.gauge(first));
        check.due("meanPick()", gauge.meanPick(), model.meanPick());
    }

    private void forecastBoth() {
        int most = random.nextBoolean() ? among(0, 10) : among(0, 500);
        int shots = random.nextBoolean() ? among(1, 10) : among(1, 200);
        both("toldAfter(" + most + ")", () -> gauge.toldAfter(most), () -> model.toldAfter(most));
        both("worstError(" + shots + ")", () -> gauge.worstError(shots), () -> model.worstError(shots));
        both("bestMode(" + shots + ")", () -> gauge.bestMode(shots), () -> model.bestMode(shots));
    }

    private void runBoth() {
        if (random.nextInt(5) > 0) {
            both("clearCommands()", gauge::clearCommands, model::clearCommands);
        }
        StringBuilder text = new StringBuilder();
        for (int commands = random.nextInt(9); commands >= 0; commands--) {
            text.append(command());
        }
        if (random.nextInt(3) == 0 && text.length() > 0) {
            int at = random.nextInt(text.length());
            char sign = "; 05a\tT-k\0~z".charAt(random.nextInt(12));
            switch (random.nextInt(4)) {
                case 0: text.insert(at, sign); break;
                case 1: text.setCharAt(at, sign); break;
                case 2: text.deleteCharAt(at); break;
                default: text.setLength(at); break;
            }
        }
        for (int i = 0; i < text.length(); i++) {
            int value = text.charAt(i);
            check.due("type(" + value + ")", answer(() -> gauge.type(value)), answer(() -> model.type(value)));
        }
        both("runCommands() of '" + text + "'", gauge::runCommands, model::runCommands);
    }

    private String spaces(int least) {
        return " ".repeat(least + (random.nextInt(5) == 0 ? random.nextInt(3) : 0));
    }

    private String command() {
        String[] words = {"tank", "level", "flow", "foam", "learn", "shoot", "shoot", "thing", "set", "blades"};
        int[] most = {600, 1200, 40, 300, 10, 12, 20, 700, 11, 6};
        int chosen = random.nextInt(words.length);
        int numbers = chosen < 7 ? 1 : chosen < 9 ? 2 : 5;
        if (chosen == 0 && random.nextInt(4) > 0) {
            return "";
        }
        StringBuilder text = new StringBuilder(spaces(0)).append(words[chosen]);
        int before = 0;
        for (int i = 0; i < numbers; i++) {
            int bound = i == 0 ? most[chosen] : chosen == 9 ? new int[] {6, 400, 700, 200, 90}[i] : 60;
            int number = random.nextInt(bound + 1) + (chosen == 9 && i == 2 ? before : 0);
            before = number;
            text.append(spaces(1)).append(random.nextInt(9) == 0 ? "0" : "").append(number);
        }
        return text.append(spaces(0)).append(';').append(spaces(0)).toString();
    }
}

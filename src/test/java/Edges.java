import java.io.IOException;
import java.math.BigInteger;
import java.nio.file.Files;
import java.nio.file.Path;
import java.util.ArrayList;
import java.util.List;
import java.util.function.IntPredicate;

/** What the edge tests share: the document's sentences, ranges, calls that are refused, and chosen chance. */
final class Edges {
    interface Maker {
        EchoGauge make();
    }

    interface Call {
        long on(EchoGauge gauge);
    }

    interface ValueCall {
        long on(EchoGauge gauge, int value);
    }

    static final Class<IllegalArgumentException> ARGUMENT = IllegalArgumentException.class;
    static final Class<IllegalStateException> STATE = IllegalStateException.class;
    static final Class<IndexOutOfBoundsException> INDEX = IndexOutOfBoundsException.class;

    static final long NOTHING_TO_UNDO = 1L << 40;
    private static final long MODULUS = 1L << 31;
    private static final String DOCUMENT = document();

    final Check check = new Check();

    /** Names the sentence that the next checks are for; it must stand in the document word by word. */
    void sentence(String words) {
        check.at("\"" + words + "\"");
        check.due("the document has the sentence", DOCUMENT.contains(words), true);
    }

    private static String document() {
        try {
            return Files.readString(Path.of("../shared/DOC.md"));
        } catch (IOException e) {
            throw new IllegalStateException("../shared/DOC.md cannot be read", e);
        }
    }

    void due(String call, long got, long want) {
        check.due(call, got, want);
    }

    void due(String call, boolean got, boolean want) {
        check.due(call, got, want);
    }

    void end() {
        check.end();
    }

    // ---- gauges to begin with

    static EchoGauge fresh() {
        return new EchoGauge();
    }

    /** In the middle of things: shots of both kinds, chance, guard, masks, a text, a stack that has dropped some. */
    static EchoGauge busy() {
        EchoGauge g = new EchoGauge();
        g.addThing(400, 50);
        g.addThing(610, 55);
        g.addThing(900, 45);
        g.setStirrer(2, 300, 600, 47, 60);
        g.setFoam(30);
        g.set(0, 10);
        g.set(1, 3);
        g.mask(900, true);
        g.shoot(6);
        g.set(4, 1);
        g.learn(1);
        g.mask(400, false);
        g.shoot(3);
        typeAll(g, "flow 7;shoot 2;");
        return g;
    }

    /** As full as it gets: six things, six blades, 150 bytes, nine places. */
    static EchoGauge full() {
        EchoGauge g = new EchoGauge();
        for (int i = 0; i < 6; i++) {
            g.addThing(100 * i + 100, 40 + i);
        }
        g.setStirrer(6, 350, 650, 59, 90);
        g.set(6, 9);
        g.set(4, 1);
        g.shoot(12);
        typeAll(g, "set 5 1;shoot 3;" + " ".repeat(134));
        return g;
    }

    /** Each shot enters its one pick, the surface, which is told at once. */
    static EchoGauge direct() {
        EchoGauge g = new EchoGauge();
        g.set(6, 1);
        g.set(7, 1);
        return g;
    }

    static void typeAll(EchoGauge g, String text) {
        for (int i = 0; i < text.length(); i++) {
            g.type(text.charAt(i));
        }
    }

    static int run(EchoGauge g, String text) {
        g.clearCommands();
        typeAll(g, text);
        return g.runCommands();
    }

    static void shootAt(EchoGauge g, int level) {
        g.setLevel(level);
        g.shoot(1);
    }

    // ---- refusals

    /** The exception must be exactly the one that is due, and the gauge must go on as one that was not asked. */
    void refused(String name, Class<? extends RuntimeException> want, Maker maker, Call call) {
        EchoGauge asked = maker.make();
        Class<?> got = null;
        try {
            call.on(asked);
        } catch (RuntimeException e) {
            got = e.getClass();
        }
        check.due(name + " throws " + want.getSimpleName() + ", not " + got, got == want, true);
        check.due(name + " changes nothing", future(asked).equals(future(maker.make())), true);
    }

    void refused(String name, Class<? extends RuntimeException> want, Call call) {
        refused(name + " of a fresh one", want, Edges::fresh, call);
        refused(name + " of a busy one", want, Edges::busy, call);
        refused(name + " of a full one", want, Edges::full, call);
    }

    /** The call may answer, but must leave no trace. */
    void changesNothing(String name, Call call) {
        Maker[] makers = {Edges::fresh, Edges::busy, Edges::full};
        for (int i = 0; i < makers.length; i++) {
            EchoGauge asked = makers[i].make();
            call.on(asked);
            check.due(name + " changes nothing of " + i, future(asked).equals(future(makers[i].make())), true);
        }
    }

    /** From least to most the call is answered; one step outside, and as far as can be, it is refused. */
    void range(String name, int least, int most, Maker maker, ValueCall call) {
        int[] outside = {least - 1, most + 1, Integer.MIN_VALUE, Integer.MAX_VALUE};
        for (int value : outside) {
            if (value < least || value > most) {
                refused(name + " with " + value, ARGUMENT, maker, g -> call.on(g, value));
            }
        }
        int[] inside = {least, least + 1, most - 1, most};
        for (int value : inside) {
            if (value >= least && value <= most) {
                boolean answered = true;
                try {
                    call.on(maker.make(), value);
                } catch (RuntimeException e) {
                    answered = false;
                }
                check.due(name + " with " + value + " is answered", answered, true);
            }
        }
    }

    /** All that a gauge would answer from now on, as far as a few calls can tell. */
    static List<Long> future(EchoGauge g) {
        List<Long> row = new ArrayList<>();
        row.add(g.digest());
        addForecasts(row, g);
        row.add((long) g.runCommands());
        row.add(g.digest());
        row.add((long) g.shoot(3));
        row.add(g.digest());
        for (int i = 0; i < 6; i++) {
            row.add(undo(g));
            row.add(g.digest());
            addForecasts(row, g);
        }
        row.add((long) g.clearCommands());
        return row;
    }

    private static void addForecasts(List<Long> row, EchoGauge g) {
        row.add((long) g.toldAfter(20));
        row.add((long) g.worstError(1));
        row.add((long) g.worstError(2));
        row.add((long) g.worstError(20));
        row.add((long) g.bestMode(20));
    }

    static long undo(EchoGauge g) {
        try {
            return g.undo();
        } catch (IllegalStateException e) {
            return NOTHING_TO_UNDO;
        }
    }

    /** All values of the interface but the command text and the undo stack. */
    static List<Long> values(EchoGauge g) {
        List<Long> row = new ArrayList<>();
        for (int what = 0; what < 12; what++) {
            row.add((long) g.tank(what));
            row.add((long) g.setting(what));
        }
        for (int what = 0; what < 13; what++) {
            row.add((long) g.gauge(what));
        }
        for (int i = 0; i < 6; i++) {
            if (i < g.tank(4)) {
                row.add((long) g.thing(i, 0));
                row.add((long) g.thing(i, 1));
            }
            if (i < g.tank(5)) {
                row.add((long) g.angle(i));
            }
        }
        for (int i = 0; i < g.gauge(7); i++) {
            for (int what = 0; what < 6; what++) {
                row.add((long) g.echo(i, what));
            }
        }
        for (int back = 0; back < 9; back++) {
            row.add((long) g.pick(back));
        }
        for (int bin = 0; bin <= 500; bin++) {
            row.add(g.isMasked(20 * bin) ? 1L : 0L);
        }
        return row;
    }

    // ---- chance, by the document's rule

    static int nextS(int s) {
        return (int) Math.floorMod(1103515245L * s + 12345L, MODULUS);
    }

    /** The s from which the next one comes. */
    static int sBefore(int next) {
        BigInteger modulus = BigInteger.valueOf(MODULUS);
        BigInteger inverse = BigInteger.valueOf(1103515245L).modInverse(modulus);
        return BigInteger.valueOf(next - 12345L).multiply(inverse).mod(modulus).intValueExact();
    }

    /** An s behind which the number below 100 is this one. */
    static int sThatDraws(int number) {
        return sBefore(number * 65536);
    }

    /** An s behind which the second number, below so many, is this one. */
    static int sThatDrawsSecond(int number, int below) {
        return findS(s -> nextS(nextS(s)) / 65536 % below == number);
    }

    private static int findS(IntPredicate fits) {
        for (int s = 0; s < 1_000_000; s++) {
            if (fits.test(s)) {
                return s;
            }
        }
        throw new IllegalStateException("no s fits");
    }
}

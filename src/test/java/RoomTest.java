import java.lang.management.ManagementFactory;

/** All calls of one run share one room, so calls must use the rows again that the constructor made. */
public final class RoomTest {
    private static final int CALLS = 512;
    /** Far below one small object for each call; the machine's own bookkeeping may take some. */
    private static final long MOST_BYTES = CALLS * 8L;

    private static final com.sun.management.ThreadMXBean THREADS =
        (com.sun.management.ThreadMXBean) ManagementFactory.getThreadMXBean();

    interface Call {
        long on(EchoGauge gauge);
    }

    public static void main(String[] args) {
        Check check = new Check();
        check.at("room");
        measure(check, "shoot", g -> g.shoot(50));
        measure(check, "learn", g -> g.learn(50));
        measure(check, "begin", g -> g.begin(3000));
        measure(check, "set", g -> g.set(6, 9) + g.set(4, 1));
        measure(check, "mask", g -> g.mask(900, true) + g.forget());
        measure(check, "forecasts", g -> g.toldAfter(500) + g.worstError(200) + g.bestMode(200));
        measure(check, "runCommands", EchoGauge::runCommands);
        measure(check, "undo", g -> g.setFoam(0) + g.setFoam(5) + g.undo() + g.undo());
        measure(check, "values", g -> g.gauge(10) + g.echo(0, 1) + (long) g.meanPick() + g.need(7));
        measure(check, "digest", EchoGauge::digest);
        check.end();
    }

    private static void measure(Check check, String name, Call call) {
        EchoGauge gauge = new EchoGauge();
        String text = "tank 2000;blades 6 300 600 60 90;thing 1 1;thing 2 2;shoot 50;learn 9;foam 5;set 4 1;tank 2000;";
        for (int i = 0; i < text.length(); i++) {
            gauge.type(text.charAt(i));
        }
        long sum = call.on(gauge);
        long id = Thread.currentThread().getId();
        long before = THREADS.getThreadAllocatedBytes(id);
        for (int i = 1; i < CALLS; i++) {
            sum += call.on(gauge);
        }
        long used = THREADS.getThreadAllocatedBytes(id) - before;
        check.due(name + " keeps to the room (" + used + " bytes, sum " + sum + ")", used <= MOST_BYTES, true);
    }
}

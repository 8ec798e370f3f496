import java.lang.management.ManagementFactory;

/** A run has one small room for all its calls: rendering must make next to no objects, however much is rendered. */
public final class RoomTest {
    private static final int RENDERS = 200;
    private static final long MOST_BYTES = 20_000;

    public static void main(String[] args) {
        Bench b = new Bench();
        int text = b.text(Bench.times(39, "<"));
        int list = b.list(text, text, text, text, text, text, text, text, text, text);
        b.compile(1, "{{#if eq ../this ../this}}{{#with up ../this}}{{#if add len.x 1}}{{/if}}{{/with}}{{/if}}");
        b.compile(0, "{{#each this}}{{> b}}{{> b}}{{> b}}{{> b}}{{> b}}{{> b}}{{@index}}{{/each}}{{len this}}");
        Bench.due("what is rendered", b.render(0, list), "012345678910");
        long before = allocated();
        for (int i = 0; i < RENDERS; i++) {
            b.engine().render(0, list);
        }
        Bench.due("few bytes for all renders", allocated() - before < MOST_BYTES, true);
        Bench.finish();
    }

    private static long allocated() {
        com.sun.management.ThreadMXBean threads = (com.sun.management.ThreadMXBean) ManagementFactory.getThreadMXBean();
        return threads.getThreadAllocatedBytes(Thread.currentThread().getId());
    }
}

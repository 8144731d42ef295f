/** The edges of promise 4: tick. (How one tick goes: EdgesAnswers-, -Serving- and -RequestsTest.) */
public final class Edges04TickTest {
    public static void main(String[] args) {
        noTick();
        oneTick();
        tenThousandTicks();
        illegalNumbers();
        howManyThereWereInAll();
        manyAreAsOneByOne();
        mostTicksAreAsManyParts();
        lastOfAllCalls();
        Check.end();
    }

    /** "n ticks, 0 .. 10000": 0 */
    private static void noTick() {
        MessageCrossbar x = new MessageCrossbar();
        Check.due("tick(0) of a new one", x.tick(0), 0);
        MessageCrossbar busy = Check.busy();
        String before = Check.seen(busy);
        Check.due("tick(0)", busy.tick(0), 54);
        Check.due("what is seen", Check.seen(busy), before);
    }

    /** The same: 1 */
    private static void oneTick() {
        MessageCrossbar x = new MessageCrossbar();
        Check.get(x, 0, 0, 0);
        Check.due("tick(1)", x.tick(1), 1);
        Check.due("requests in the port", x.port(0, 0), 1);
        Check.due("left of a job", x.port(0, 1), -1);
    }

    /** The same: 10000 */
    private static void tenThousandTicks() {
        MessageCrossbar x = new MessageCrossbar();
        Check.get(x, 0, 5, 0);
        Check.due("tick(9999)", x.tick(9999), 9999);
        Check.due("tick(10000)", x.tick(10000), 19999);
        Check.due("count(0)", x.count(0), 19999);
        Check.due("still ticks", x.count(7), 19999 - 4);
        Check.due("take", x.take(0), 5);
    }

    /** "IllegalArgumentException when n is not so." */
    private static void illegalNumbers() {
        MessageCrossbar x = Check.busy();
        String before = Check.seen(x);
        int[] wrong = {-1, -2, -10000, 10001, 20000, 1 << 16, Integer.MIN_VALUE, Integer.MAX_VALUE};
        for (int n : wrong) {
            Check.refused("tick(" + n + ")", Check.ARGUMENT, () -> x.tick(n));
        }
        Check.due("what is seen", Check.seen(x), before);
    }

    /** "how many there were in all" */
    private static void howManyThereWereInAll() {
        MessageCrossbar x = new MessageCrossbar();
        int all = 0;
        for (int n = 0; n < 100; n++) {
            all += n;
            Check.due("tick(" + n + ")", x.tick(n), all);
        }
    }

    /** "n ticks": whether anything moves in them or not */
    private static void manyAreAsOneByOne() {
        for (int n = 0; n <= 120; n++) {
            MessageCrossbar many = Check.busy();
            MessageCrossbar single = Check.busy();
            many.tick(n);
            for (int i = 0; i < n; i++) {
                single.tick(1);
            }
            Check.due("what is seen after " + n, Check.seen(many), Check.seen(single));
        }
    }

    /** The same, with the most ticks of one call. */
    private static void mostTicksAreAsManyParts() {
        MessageCrossbar most = Check.busy();
        MessageCrossbar parts = Check.busy();
        most.tick(10000);
        for (int i = 0; i < 200; i++) {
            parts.tick(50);
        }
        Check.due("what is seen", Check.seen(most), Check.seen(parts));
        most.accept(1, true);
        parts.accept(1, true);
        most.tick(10000);
        for (int i = 0; i < 100; i++) {
            parts.tick(100);
        }
        Check.due("what is seen then", Check.seen(most), Check.seen(parts));
    }

    /** "An object is used for at most 512 calls": the most ticks that there can be. */
    private static void lastOfAllCalls() {
        MessageCrossbar x = new MessageCrossbar();
        for (int call = 1; call <= 511; call++) {
            Check.due("tick(10000), call " + call, x.tick(10000), 10000 * call);
        }
        Check.due("count(7), call 512", x.count(7), 5110000);
    }
}

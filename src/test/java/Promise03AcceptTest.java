/** Promise 3: whether a master accepts answers from now on. */
public final class Promise03AcceptTest {
    public static void main(String[] args) {
        answersWhatWasBefore();
        answersStayInThePort();
        boxKeepsWhatItHas();
        for (int m : new int[] {-1, 3, Integer.MIN_VALUE, Integer.MAX_VALUE}) {
            MessageCrossbar x = new MessageCrossbar();
            Check.refused("accept(" + m + ", true)", Check.ARGUMENT, () -> x.accept(m, true));
            Check.refused("accept(" + m + ", false)", Check.ARGUMENT, () -> x.accept(m, false));
        }
        Check.end();
    }

    private static void answersWhatWasBefore() {
        MessageCrossbar x = new MessageCrossbar();
        for (int m = 0; m < 3; m++) {
            Check.due("accept at first", x.accept(m, true), true);
            Check.due("accept after yes", x.accept(m, false), true);
            Check.due("accept after no", x.accept(m, false), false);
            Check.due("accept after no twice", x.accept(m, true), false);
            Check.due("accept after yes again", x.accept(m, false), true);
            Check.due("master(m, 3)", x.master(m, 3), 0);
            Check.due("master of the next", x.master((m + 1) % 3, 3), m < 2 ? 1 : 0);
        }
    }

    private static void answersStayInThePort() {
        MessageCrossbar x = new MessageCrossbar();
        x.accept(0, false);
        for (int source = 0; source < 6; source++) {
            Check.get(x, 0, source, 256);
        }
        x.tick(100);
        Check.due("answers in the port", x.port(1, 2), 2);
        Check.due("ticks left of the job that can't end", x.port(1, 1), 0);
        Check.due("requests in the port", x.port(1, 0), 1);
        Check.due("ids in use", x.port(1, 3), 4);
        Check.due("requests that wait", x.master(0, 0), 2);
        Check.due("answers in the box", x.master(0, 1), 0);
        x.accept(0, true);
        x.tick(1);
        Check.due("answers in the port, one moved and one made", x.port(1, 2), 2);
        Check.due("ticks left of the next job", x.port(1, 1), 2);
        Check.due("answers in the box after yes", x.master(0, 1), 1);
        Check.due("the id that was free is the next one's", x.owner(1, 0), 4);
    }

    private static void boxKeepsWhatItHas() {
        MessageCrossbar x = new MessageCrossbar();
        Check.get(x, 1, 3, 256);
        x.tick(10);
        x.accept(1, false);
        Check.due("take while not accepting", x.take(1), 3);
    }
}

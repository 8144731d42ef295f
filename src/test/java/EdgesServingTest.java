/** The edges that "Terms" names for the second part of a tick: ports serve. */
public final class EdgesServingTest {
    /** Ticks of a job by port and z: delays 2, 1, 3, 1 and sizes by widths 4, 1, 8, 8. */
    private static final int[][] TICKS = {{3, 3, 3, 4}, {2, 3, 5, 9}, {4, 4, 4, 4}, {2, 2, 2, 2}};

    public static void main(String[] args) {
        delayAndSizeByWidth();
        ticksLeftStopAtZero();
        doneWithLessThanTwoAnswers();
        doneInTheTickThatMakesRoom();
        notDoneWithATickLeft();
        answerComesBehindTheOthers();
        noJobWithoutRequests();
        nextJobBeginsInTheTickOfTheLast();
        jobThatCantEndHoldsUpTheNext();
        requestOfThisTickIsNoJobYet();
        memoryIsWrittenWhenTheJobIsDone();
        memoryIsReadWhenTheJobIsDone();
        allPortsServeInOneTick();
        Check.end();
    }

    /** "with its delay and size / width (1 at least) ticks" */
    private static void delayAndSizeByWidth() {
        for (int p = 0; p < 4; p++) {
            for (int z = 0; z < 4; z++) {
                MessageCrossbar x = new MessageCrossbar();
                int last = Check.LAST_PLACES[p] + 1 - (1 << z);
                x.request(1, 0, z % 3, z, last, -1, 255);
                x.tick(1);
                Check.due("left ahead of the job", x.port(p, 1), -1);
                x.tick(1);
                Check.due("left of z " + z + " in port " + p, x.port(p, 1), TICKS[p][z]);
                x.tick(TICKS[p][z] - 1);
                Check.due("left in the last tick but one", x.port(p, 1), 1);
                Check.due("done then", x.count(3), 0);
                x.tick(1);
                Check.due("left after the last tick", x.port(p, 1), -1);
                Check.due("done after the last tick", x.count(3), 1);
            }
        }
    }

    /** "one tick less is left of that (not below 0)" */
    private static void ticksLeftStopAtZero() {
        for (int p = 0; p < 4; p++) {
            MessageCrossbar x = new MessageCrossbar();
            Check.leaveAnswers(x, 0, p, 2);
            Check.get(x, 0, 2, Check.PLACES[p]);
            x.tick(2);
            for (int left = TICKS[p][0]; left > 0; left--) {
                Check.due("left", x.port(p, 1), left);
                x.tick(1);
            }
            Check.due("none left", x.port(p, 1), 0);
            x.tick(1);
            Check.due("none left a tick later", x.port(p, 1), 0);
            x.tick(10000);
            Check.due("none left much later", x.port(p, 1), 0);
            Check.due("jobs done", x.port(p, 4), 2);
        }
    }

    /** "with none left and less than two answers in it the job is done" */
    private static void doneWithLessThanTwoAnswers() {
        for (int p = 0; p < 4; p++) {
            for (int answers = 0; answers <= 2; answers++) {
                MessageCrossbar x = new MessageCrossbar();
                Check.leaveAnswers(x, 0, p, answers);
                Check.get(x, 0, 7, Check.PLACES[p]);
                x.tick(2 + TICKS[p][0]);
                boolean done = answers < 2;
                Check.due("done with " + answers + " answers", x.port(p, 4), done ? answers + 1 : 2);
                Check.due("answers in it", x.port(p, 2), done ? answers + 1 : 2);
                Check.due("left", x.port(p, 1), done ? -1 : 0);
                Check.due("latest done", x.done(0), 64 * p + (done ? 7 : 1));
            }
        }
    }

    /** The same: an answer that leaves in this tick makes room, also with one tick left before it. */
    private static void doneInTheTickThatMakesRoom() {
        for (int p = 0; p < 4; p++) {
            for (int later = 0; later < 3; later++) {
                MessageCrossbar x = new MessageCrossbar();
                Check.leaveAnswers(x, 0, p, 2);
                Check.get(x, 0, 7, Check.PLACES[p]);
                x.tick(1 + TICKS[p][0] + later);
                Check.due("left", x.port(p, 1), later == 0 ? 1 : 0);
                x.accept(0, true);
                x.tick(1);
                Check.due("done in the tick that makes room", x.port(p, 4), 3);
                Check.due("answers in it", x.port(p, 2), 2);
                Check.due("in the box", x.master(0, 1), 1);
            }
        }
    }

    /** "with none left": room for the answer alone does not end a job. */
    private static void notDoneWithATickLeft() {
        for (int p = 0; p < 4; p++) {
            MessageCrossbar x = new MessageCrossbar();
            Check.get(x, 0, 0, Check.PLACES[p]);
            x.tick(1 + TICKS[p][0]);
            Check.due("left", x.port(p, 1), 1);
            Check.due("answers in it", x.port(p, 2), 0);
            Check.due("jobs done", x.port(p, 4), 0);
        }
    }

    /** "its answer comes behind the others" */
    private static void answerComesBehindTheOthers() {
        for (int p = 0; p < 4; p++) {
            MessageCrossbar x = new MessageCrossbar();
            x.accept(0, false);
            for (int source : new int[] {6, 2, 5, 0}) {
                Check.get(x, 0, source, Check.PLACES[p]);
            }
            x.tick(50);
            x.accept(0, true);
            x.tick(50);
            for (int source : new int[] {6, 2, 5, 0}) {
                Check.due("take in order", x.take(0) & 7, source);
            }
        }
    }

    /** "If it has none [..] and requests are in it" */
    private static void noJobWithoutRequests() {
        MessageCrossbar x = new MessageCrossbar();
        for (int p = 0; p < 4; p++) {
            x.tick(1);
            Check.due("left of an empty port " + p, x.port(p, 1), -1);
        }
        for (int p = 0; p < 4; p++) {
            Check.get(x, 0, p, Check.PLACES[p]);
        }
        x.tick(10000);
        for (int p = 0; p < 4; p++) {
            Check.due("left of a port that is empty again", x.port(p, 1), -1);
            Check.due("jobs done", x.port(p, 4), 1);
        }
    }

    /** "If it has none (then, too) [..] the first one becomes its job" */
    private static void nextJobBeginsInTheTickOfTheLast() {
        for (int p = 0; p < 4; p++) {
            MessageCrossbar x = new MessageCrossbar();
            Check.get(x, 0, 4, Check.PLACES[p]);
            x.request(0, 1, Check.PUT, 3, Check.PLACES[p], 0, 0);
            Check.get(x, 0, 2, Check.PLACES[p]);
            x.tick(1 + TICKS[p][0]);
            Check.due("left of the first", x.port(p, 1), 1);
            Check.due("requests behind it", x.port(p, 0), 2);
            x.tick(1);
            Check.due("left of the second", x.port(p, 1), TICKS[p][3]);
            Check.due("requests then", x.port(p, 0), 1);
            x.tick(TICKS[p][3]);
            Check.due("left of the third", x.port(p, 1), TICKS[p][0]);
            Check.due("requests at last", x.port(p, 0), 0);
            Check.due("done(0)", x.done(0), 64 * p + 1);
            Check.due("done(1)", x.done(1), 64 * p + 4);
        }
    }

    /** "If it has none": a job that has no tick left is still one. */
    private static void jobThatCantEndHoldsUpTheNext() {
        for (int p = 0; p < 4; p++) {
            MessageCrossbar x = new MessageCrossbar();
            x.accept(0, false);
            for (int source = 0; source < 4; source++) {
                Check.get(x, 0, source, Check.PLACES[p]);
            }
            x.tick(1000);
            Check.due("left", x.port(p, 1), 0);
            Check.due("requests behind it", x.port(p, 0), 1);
            Check.due("jobs done", x.port(p, 4), 2);
        }
    }

    /** Serving goes ahead of requests: one that comes in this tick is served from the next one on. */
    private static void requestOfThisTickIsNoJobYet() {
        for (int p = 0; p < 4; p++) {
            MessageCrossbar x = new MessageCrossbar();
            Check.get(x, 0, 0, Check.PLACES[p]);
            x.tick(1 + TICKS[p][0]);
            Check.get(x, 0, 1, Check.PLACES[p]);
            x.tick(1);
            Check.due("done in the tick in which it comes", x.port(p, 4), 1);
            Check.due("left then", x.port(p, 1), -1);
            Check.due("requests then", x.port(p, 0), 1);
            x.tick(1);
            Check.due("left a tick later", x.port(p, 1), TICKS[p][0]);
            Check.due("requests a tick later", x.port(p, 0), 0);
        }
    }

    /** "the job is done (memory, if it has one, is read or written)" */
    private static void memoryIsWrittenWhenTheJobIsDone() {
        for (int p = 0; p < 3; p++) {
            for (int sort = 1; sort < 3; sort++) {
                int address = Check.PLACES[p];
                MessageCrossbar x = new MessageCrossbar();
                Check.leaveAnswers(x, 0, p, 2);
                x.request(0, 7, sort, 0, address, 255, 1);
                x.tick(1000);
                Check.due("left", x.port(p, 1), 0);
                Check.due("memory while the job can't end", x.memory(address), 0);
                x.accept(0, true);
                x.tick(1);
                Check.due("memory when it is done", x.memory(address), 255);
            }
        }
    }

    /** The same: a GET reads what the jobs done before it have written, not what comes later. */
    private static void memoryIsReadWhenTheJobIsDone() {
        for (int p = 0; p < 3; p++) {
            MessageCrossbar x = new MessageCrossbar();
            x.accept(1, false);
            x.request(0, 0, Check.PUT, 3, Check.PLACES[p], Long.MIN_VALUE, 0);
            x.tick(1);
            x.request(1, 0, Check.GET, 3, Check.PLACES[p], 0, 0);
            x.tick(1);
            x.request(0, 1, Check.PUT, 3, Check.PLACES[p], 1, 0);
            x.tick(100);
            Check.due("jobs done", x.port(p, 4), 3);
            x.accept(1, true);
            x.tick(1);
            Check.due("take", x.take(1), 0);
            Check.due("data", x.data(), Long.MIN_VALUE);
            Check.due("memory", x.memory(Check.PLACES[p]), 1);
        }
    }

    /** "Then SERVING, port by port": one port's job is nothing to another's. */
    private static void allPortsServeInOneTick() {
        MessageCrossbar x = new MessageCrossbar();
        for (int p = 0; p < 4; p++) {
            Check.get(x, 0, p, Check.PLACES[p]);
        }
        x.tick(1);
        Check.due("requests that left", x.count(2), 4);
        x.tick(1);
        for (int p = 0; p < 4; p++) {
            Check.due("left in port " + p, x.port(p, 1), TICKS[p][0]);
        }
        x.tick(2);
        Check.due("done after two of its ticks", x.count(3), 2);
        x.tick(1);
        Check.due("done after three of its ticks", x.count(3), 3);
        x.tick(1);
        Check.due("done after four of its ticks", x.count(3), 4);
    }
}

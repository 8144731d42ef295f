/** The edges that "Terms" names for the first part of a tick: answers go into boxes. */
public final class EdgesAnswersTest {
    public static void main(String[] args) {
        acceptsOrNot();
        boxTakesAFourthAndNoFifth();
        fullBoxIsOfItsMasterAlone();
        firstAnswerHoldsUpTheNext();
        onePortGivesToRisingMastersInOneTick();
        masterGetsOneInATick();
        turnsBeginWithPortZero();
        turnsBeginBehindTheLatestPort();
        turnStaysWhileTheBoxIsFull();
        idIsFreeThen();
        idIsTakenAgainInTheSameTick();
        Check.end();
    }

    /** "if it accepts": said in the last moment before the tick in which the answer goes. */
    private static void acceptsOrNot() {
        for (int m = 0; m < 3; m++) {
            MessageCrossbar x = new MessageCrossbar();
            Check.get(x, m, 0, 256);
            x.tick(4);
            Check.due("answers in the port", x.port(1, 2), 1);
            x.accept(m, false);
            x.tick(1);
            Check.due("in the box of one that does not accept", x.master(m, 1), 0);
            x.accept((m + 1) % 3, true);
            x.tick(10000);
            Check.due("in the box much later", x.master(m, 1), 0);
            x.accept(m, true);
            Check.due("in the box ahead of a tick", x.master(m, 1), 0);
            x.tick(1);
            Check.due("in the box of one that accepts", x.master(m, 1), 1);
            Check.due("in the port then", x.port(1, 2), 0);
        }
    }

    /** "and has less than four in its BOX" */
    private static void boxTakesAFourthAndNoFifth() {
        for (int m = 0; m < 3; m++) {
            for (int boxed = 0; boxed <= 4; boxed++) {
                MessageCrossbar x = new MessageCrossbar();
                for (int source = 0; source < boxed; source++) {
                    Check.get(x, m, source, 640);
                }
                x.tick(50);
                Check.due("in the box", x.master(m, 1), boxed);
                Check.get(x, m, 7, 256);
                x.tick(4);
                Check.due("in the box while one is in the port", x.master(m, 1), boxed);
                Check.due("in the port", x.port(1, 2), 1);
                x.tick(1);
                Check.due("in the box of " + boxed + " and one", x.master(m, 1), Math.min(boxed + 1, 4));
                Check.due("in the port then", x.port(1, 2), boxed < 4 ? 0 : 1);
                x.tick(1000);
                Check.due("in the box later", x.master(m, 1), Math.min(boxed + 1, 4));
                x.take(m);
                x.tick(1);
                Check.due("in the box after a take", x.master(m, 1), boxed < 4 ? boxed : 4);
                Check.due("in the port after a take", x.port(1, 2), 0);
            }
        }
    }

    /** The same: each master has a box of its own. */
    private static void fullBoxIsOfItsMasterAlone() {
        MessageCrossbar x = new MessageCrossbar();
        for (int source = 0; source < 5; source++) {
            Check.get(x, 1, source, 640);
        }
        x.tick(50);
        Check.due("in the full box", x.master(1, 1), 4);
        Check.get(x, 0, 0, 0);
        Check.get(x, 2, 0, 512);
        x.tick(50);
        Check.due("in the box of master 0", x.master(0, 1), 1);
        Check.due("in the box of master 2", x.master(2, 1), 1);
        Check.due("in the full box still", x.master(1, 1), 4);
    }

    /** Port 1 with an answer for one master and behind it one for another. */
    private static MessageCrossbar twoAnswers(int first, int second) {
        MessageCrossbar x = new MessageCrossbar();
        x.accept(first, false);
        x.accept(second, false);
        Check.get(x, first, 1, 256);
        x.tick(1);
        Check.get(x, second, 2, 256);
        x.tick(20);
        Check.due("answers in the port", x.port(1, 2), 2);
        return x;
    }

    /** "of the ports whose first answer is for it" */
    private static void firstAnswerHoldsUpTheNext() {
        for (int first = 0; first < 3; first++) {
            for (int second = 0; second < 3; second++) {
                if (first != second) {
                    MessageCrossbar x = twoAnswers(first, second);
                    x.accept(second, true);
                    x.tick(100);
                    Check.due("in the box of the second", x.master(second, 1), 0);
                    Check.due("in the port", x.port(1, 2), 2);
                    x.accept(first, true);
                    x.tick(2);
                    Check.due("in the box of the first", x.master(first, 1), 1);
                    Check.due("in the box of the second then", x.master(second, 1), 1);
                }
            }
        }
    }

    /** "masters [..] are gone through one after the other, each by what those before it left" */
    private static void onePortGivesToRisingMastersInOneTick() {
        for (int first = 0; first < 3; first++) {
            for (int second = 0; second < 3; second++) {
                if (first != second) {
                    MessageCrossbar x = twoAnswers(first, second);
                    x.accept(first, true);
                    x.accept(second, true);
                    x.tick(1);
                    Check.due("in the box of " + first, x.master(first, 1), 1);
                    Check.due("in the box of " + second + " behind " + first,
                            x.master(second, 1), first < second ? 1 : 0);
                    Check.due("answers that came into boxes", x.count(4), first < second ? 2 : 1);
                }
            }
        }
    }

    /** "one gives that into the box" */
    private static void masterGetsOneInATick() {
        MessageCrossbar x = new MessageCrossbar();
        x.accept(0, false);
        for (int source = 0; source < 8; source++) {
            Check.get(x, 0, source, Check.PLACES[source & 3]);
        }
        x.tick(50);
        x.accept(0, true);
        for (int boxed = 1; boxed <= 4; boxed++) {
            x.tick(1);
            Check.due("in the box", x.master(0, 1), boxed);
            Check.due("came into boxes", x.count(4), boxed);
        }
    }

    /** The source (the port's number) of the answer that is given when a set of ports have one. */
    private static int given(MessageCrossbar x, int m, int ports) {
        x.accept(m, false);
        for (int p = 0; p < 4; p++) {
            if ((ports >> p & 1) == 1) {
                Check.get(x, m, p, Check.PLACES[p]);
            }
        }
        x.tick(30);
        x.accept(m, true);
        x.tick(1);
        return x.take(m) & 7;
    }

    private static int firstFrom(int start, int set, int size) {
        int place = start % size;
        while ((set >> place & 1) == 0) {
            place = (place + 1) % size;
        }
        return place;
    }

    /** "(at first with 0)" */
    private static void turnsBeginWithPortZero() {
        for (int m = 0; m < 3; m++) {
            for (int ports = 1; ports < 16; ports++) {
                Check.due("at first, ports " + ports, given(new MessageCrossbar(), m, ports),
                        firstFrom(0, ports, 4));
            }
        }
    }

    /** "ports take turns, beginning behind the one that gave it one latest", port 0 behind port 3 */
    private static void turnsBeginBehindTheLatestPort() {
        for (int m = 0; m < 3; m++) {
            for (int latest = 0; latest < 4; latest++) {
                for (int ports = 1; ports < 16; ports++) {
                    MessageCrossbar x = new MessageCrossbar();
                    Check.due("latest", given(x, m, 1 << latest), latest);
                    int other = (m + 1) % 3;
                    given(x, other, 1 << (latest + 2) % 4);
                    Check.due("behind port " + latest + ", ports " + ports, given(x, m, ports),
                            firstFrom(latest + 1, ports, 4));
                }
            }
        }
    }

    /** The same: a tick that gives nothing leaves the turn where it was. */
    private static void turnStaysWhileTheBoxIsFull() {
        MessageCrossbar x = new MessageCrossbar();
        x.accept(0, false);
        for (int source = 0; source < 8; source++) {
            Check.get(x, 0, source, Check.PLACES[source & 3]);
        }
        x.tick(50);
        x.accept(0, true);
        x.tick(2);
        x.accept(0, false);
        x.tick(9);
        x.accept(0, true);
        x.tick(9);
        Check.due("in the box", x.master(0, 1), 4);
        for (int source = 0; source < 8; source++) {
            Check.due("take", x.take(0) & 7, source);
            x.tick(1);
        }
    }

    /** "its ID in the port is free then" */
    private static void idIsFreeThen() {
        for (int p = 0; p < 4; p++) {
            MessageCrossbar x = new MessageCrossbar();
            Check.leaveAnswers(x, 2, p, 2);
            Check.due("ids with answers in the port", x.port(p, 3), 2);
            x.accept(2, true);
            x.tick(1);
            Check.due("the first one's id", x.owner(p, 0), -1);
            Check.due("the second one's id", x.owner(p, 1), 17);
            Check.due("ids", x.port(p, 3), 1);
            x.tick(1);
            Check.due("the second one's id then", x.owner(p, 1), -1);
            Check.due("ids then", x.port(p, 3), 0);
        }
    }

    /** The same: free for a request of this very tick. */
    private static void idIsTakenAgainInTheSameTick() {
        for (int p = 0; p < 4; p++) {
            MessageCrossbar x = new MessageCrossbar();
            x.accept(0, false);
            for (int source = 0; source < 5; source++) {
                Check.get(x, 0, source, Check.PLACES[p]);
            }
            x.tick(50);
            Check.due("ids in use", x.port(p, 3), 4);
            Check.due("waiting", x.master(0, 0), 1);
            x.accept(0, true);
            x.tick(1);
            Check.due("the first id's new owner", x.owner(p, 0), 4);
            Check.due("ids in use again", x.port(p, 3), 4);
            Check.due("waiting then", x.master(0, 0), 0);
        }
    }
}

/** The edges that "Terms" names for the last part of a tick: requests go to ports. */
public final class EdgesRequestsTest {
    public static void main(String[] args) {
        portTakesASecondRequestAndNoThird();
        jobIsNotCountedAmongThem();
        twoRequestsHoldUpAThirdWithAnIdFree();
        portTakesAFourthIdAndNoFifth();
        fullPortIsNothingToAnother();
        firstRequestHoldsUpTheNext();
        portTakesOneInATick();
        masterGivesToRisingPortsInOneTick();
        turnsBeginWithMasterZero();
        turnsBeginBehindTheLatestMaster();
        turnStaysWhileThePortIsFull();
        leastIdIsZeroAtFirst();
        leastIdOfTwoThatAreFree();
        leastIdBetweenOthers();
        Check.end();
    }

    private static void eightLongPuts(MessageCrossbar x, int m, int p) {
        for (int source = 0; source < 8; source++) {
            x.request(m, source, Check.PUT, 3, Check.PLACES[p], 0, 0);
        }
    }

    /** "if less than two requests are in it (besides the job)" */
    private static void portTakesASecondRequestAndNoThird() {
        MessageCrossbar x = new MessageCrossbar();
        eightLongPuts(x, 0, 1);
        int[] requests = {1, 1, 2, 2, 2, 2, 2, 2, 2, 2};
        int[] waiting = {7, 6, 5, 5, 5, 5, 5, 5, 5, 5};
        for (int t = 0; t < 10; t++) {
            x.tick(1);
            Check.due("requests, tick " + (t + 1), x.port(1, 0), requests[t]);
            Check.due("waiting, tick " + (t + 1), x.master(0, 0), waiting[t]);
        }
        Check.due("ids in use, one is free", x.port(1, 3), 3);
        Check.due("left", x.port(1, 1), 1);
        x.tick(1);
        Check.due("requests when the next job has begun", x.port(1, 0), 2);
        Check.due("waiting then", x.master(0, 0), 4);
    }

    /** "(besides the job)": a job and two requests are three ids. */
    private static void jobIsNotCountedAmongThem() {
        for (int p = 0; p < 4; p++) {
            MessageCrossbar x = new MessageCrossbar();
            eightLongPuts(x, 1, p);
            x.tick(3);
            Check.due("requests", x.port(p, 0), 2);
            Check.due("a job", x.port(p, 1) > 0, true);
            Check.due("ids in use", x.port(p, 3), 3);
            Check.due("waiting", x.master(1, 0), 5);
        }
    }

    /** The same in the port whose jobs are shortest: an answer has left, its id is free. */
    private static void twoRequestsHoldUpAThirdWithAnIdFree() {
        MessageCrossbar x = new MessageCrossbar();
        eightLongPuts(x, 2, 3);
        x.tick(4);
        Check.due("ids in use, tick 4", x.port(3, 3), 4);
        x.tick(1);
        Check.due("ids in use, tick 5", x.port(3, 3), 3);
        Check.due("requests, tick 5", x.port(3, 0), 2);
        Check.due("waiting, tick 5", x.master(2, 0), 4);
        x.tick(1);
        Check.due("ids in use, tick 6", x.port(3, 3), 4);
        Check.due("waiting, tick 6", x.master(2, 0), 3);
    }

    /** "and one of its ids 0 .. 3 is free" */
    private static void portTakesAFourthIdAndNoFifth() {
        for (int p = 0; p < 4; p++) {
            for (int told = 1; told <= 6; told++) {
                MessageCrossbar x = new MessageCrossbar();
                x.accept(0, false);
                for (int source = 0; source < told; source++) {
                    Check.get(x, 0, source, Check.PLACES[p]);
                }
                x.tick(200);
                Check.due("ids of " + told, x.port(p, 3), Math.min(told, 4));
                Check.due("waiting of " + told, x.master(0, 0), Math.max(told - 4, 0));
                Check.due("requests of " + told, x.port(p, 0), told < 4 ? 0 : 1);
                Check.due("owner(p, 3) of " + told, x.owner(p, 3), told < 4 ? -1 : 3);
            }
        }
    }

    /** The same: ids are each port's own. */
    private static void fullPortIsNothingToAnother() {
        for (int p = 0; p < 4; p++) {
            MessageCrossbar x = new MessageCrossbar();
            x.accept(0, false);
            eightLongPuts(x, 0, p);
            x.tick(200);
            for (int other = 0; other < 4; other++) {
                Check.get(x, 1, other, Check.PLACES[other]);
                x.tick(20);
                if (other == p) {
                    Check.due("waiting for the full port", x.master(1, 0), 1);
                    break;
                }
                Check.due("take of another port's", x.take(1) & 7, other);
            }
        }
    }

    /** "of the masters whose first waiting request goes to it" */
    private static void firstRequestHoldsUpTheNext() {
        MessageCrossbar x = new MessageCrossbar();
        x.accept(0, false);
        for (int source = 0; source < 5; source++) {
            Check.get(x, 0, source, 256);
        }
        Check.get(x, 0, 5, 512);
        x.tick(100);
        Check.due("waiting", x.master(0, 0), 2);
        Check.due("ids of the second one's port", x.port(2, 3), 0);
        x.accept(0, true);
        x.tick(1);
        Check.due("waiting when both can go", x.master(0, 0), 0);
        Check.due("ids of the second one's port then", x.port(2, 3), 1);
    }

    /** "one gives that" */
    private static void portTakesOneInATick() {
        for (int p = 0; p < 4; p++) {
            MessageCrossbar x = new MessageCrossbar();
            for (int m = 0; m < 3; m++) {
                Check.get(x, m, 0, Check.PLACES[p]);
                Check.get(x, m, 1, Check.PLACES[p]);
            }
            x.tick(1);
            Check.due("requests after one tick", x.port(p, 0), 1);
            Check.due("left their masters", x.count(2), 1);
            x.tick(1);
            Check.due("left their masters after two", x.count(2), 2);
        }
    }

    /** "ports are gone through one after the other, each by what those before it left" */
    private static void masterGivesToRisingPortsInOneTick() {
        for (int first = 0; first < 4; first++) {
            for (int second = 0; second < 4; second++) {
                MessageCrossbar x = new MessageCrossbar();
                Check.get(x, 2, 0, Check.PLACES[first]);
                Check.get(x, 2, 1, Check.PLACES[second]);
                x.tick(1);
                Check.due("left for ports " + first + ", " + second, x.count(2), first < second ? 2 : 1);
            }
        }
    }

    /** The master whose request a port takes when a set of masters have one for it. */
    private static int taken(MessageCrossbar x, int p, int masters) {
        for (int m = 0; m < 3; m++) {
            if ((masters >> m & 1) == 1) {
                Check.get(x, m, 5, Check.PLACES[p]);
            }
        }
        x.tick(1);
        int owner = x.owner(p, 0);
        x.tick(40);
        for (int m = 0; m < 3; m++) {
            x.take(m);
        }
        return owner >> 3;
    }

    private static int firstFrom(int start, int set, int size) {
        int place = start % size;
        while ((set >> place & 1) == 0) {
            place = (place + 1) % size;
        }
        return place;
    }

    /** "masters take turns, as ports do": at first with 0 */
    private static void turnsBeginWithMasterZero() {
        for (int p = 0; p < 4; p++) {
            for (int masters = 1; masters < 8; masters++) {
                Check.due("at first, masters " + masters, taken(new MessageCrossbar(), p, masters),
                        firstFrom(0, masters, 3));
            }
        }
    }

    /** The same: beginning behind the one that gave it one latest, master 0 behind master 2 */
    private static void turnsBeginBehindTheLatestMaster() {
        for (int p = 0; p < 4; p++) {
            for (int latest = 0; latest < 3; latest++) {
                for (int masters = 1; masters < 8; masters++) {
                    MessageCrossbar x = new MessageCrossbar();
                    Check.due("latest", taken(x, p, 1 << latest), latest);
                    taken(x, (p + 1) % 4, 1 << (latest + 1) % 3);
                    Check.due("behind master " + latest + ", masters " + masters, taken(x, p, masters),
                            firstFrom(latest + 1, masters, 3));
                }
            }
        }
    }

    /** The same: a tick that takes nothing leaves the turn where it was. */
    private static void turnStaysWhileThePortIsFull() {
        for (int latest = 0; latest < 3; latest++) {
            MessageCrossbar x = new MessageCrossbar();
            x.accept(latest, false);
            for (int source = 0; source < 4; source++) {
                Check.get(x, latest, source, 256);
            }
            x.tick(100);
            for (int m = 0; m < 3; m++) {
                Check.get(x, m, 6, 256);
            }
            x.tick(7);
            Check.due("left their masters", x.count(2), 4);
            x.accept(latest, true);
            x.tick(1);
            Check.due("behind master " + latest, x.owner(1, 0), 8 * ((latest + 1) % 3) + 6);
        }
    }

    /** "the least id that is free is its own" */
    private static void leastIdIsZeroAtFirst() {
        for (int p = 0; p < 4; p++) {
            MessageCrossbar x = new MessageCrossbar();
            x.accept(1, false);
            for (int source = 7; source > 3; source--) {
                Check.get(x, 1, source, Check.PLACES[p]);
            }
            x.tick(100);
            for (int id = 0; id < 4; id++) {
                Check.due("owner(" + p + ", " + id + ")", x.owner(p, id), 8 + 7 - id);
            }
        }
    }

    /** The same: 0 and 1 are free, 2 and 3 are not. */
    private static void leastIdOfTwoThatAreFree() {
        MessageCrossbar x = new MessageCrossbar();
        x.accept(1, false);
        for (int source = 0; source < 4; source++) {
            Check.get(x, 1, source, 640);
        }
        x.tick(50);
        x.accept(1, true);
        x.tick(2);
        x.accept(1, false);
        Check.due("ids in use", x.port(3, 3), 2);
        Check.get(x, 1, 4, 640);
        x.tick(1);
        Check.due("owner(3, 0)", x.owner(3, 0), 12);
        Check.due("owner(3, 1)", x.owner(3, 1), -1);
        Check.due("owner(3, 2)", x.owner(3, 2), 10);
        Check.due("owner(3, 3)", x.owner(3, 3), 11);
    }

    /** The same: 1 and 2 are free, 0 has been taken again and 3 not yet been freed. */
    private static void leastIdBetweenOthers() {
        MessageCrossbar x = new MessageCrossbar();
        x.accept(1, false);
        for (int source = 0; source < 5; source++) {
            Check.get(x, 1, source, 640);
        }
        x.tick(50);
        x.accept(1, true);
        x.tick(3);
        x.accept(1, false);
        Check.due("owner(3, 0), taken again", x.owner(3, 0), 12);
        Check.due("owner(3, 1), free", x.owner(3, 1), -1);
        Check.due("owner(3, 2), free", x.owner(3, 2), -1);
        Check.due("owner(3, 3), not yet free", x.owner(3, 3), 11);
        Check.get(x, 1, 5, 640);
        Check.get(x, 1, 6, 640);
        x.tick(1);
        Check.due("owner(3, 1)", x.owner(3, 1), 13);
        Check.due("owner(3, 2) then", x.owner(3, 2), -1);
        x.tick(1);
        Check.due("owner(3, 2)", x.owner(3, 2), 14);
    }
}

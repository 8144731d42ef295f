import java.util.ArrayDeque;
import java.util.ArrayList;
import java.util.List;

/**
 * The document told a second time, with other means than the class: every request is an object that
 * walks from one queue to the next, ticks are run one by one, and arguments are not looked at.
 */
final class PlainCrossbar {
    static final class Request {
        int master;
        int source;
        int sort;
        int z;
        int address;
        long data;
        int mask;
        int port;
        int id;
        long answer;
    }

    private static final int[] WIDTHS = {4, 1, 8, 8};
    private static final int[] DELAYS = {2, 1, 3, 1};

    private final List<ArrayDeque<Request>> waiting = new ArrayList<>();
    private final List<ArrayDeque<Request>> boxes = new ArrayList<>();
    private final List<ArrayDeque<Request>> queues = new ArrayList<>();
    private final List<ArrayDeque<Request>> answers = new ArrayList<>();
    private final List<Request> flight = new ArrayList<>();
    private final List<Integer> log = new ArrayList<>();
    private final boolean[] accepts = {true, true, true};
    private final Request[] jobs = new Request[4];
    private final int[] left = new int[4];
    private final int[] jobsDone = new int[4];
    private final Request[][] ids = new Request[4][4];
    private final int[] firstPort = new int[3];
    private final int[] firstMaster = new int[4];
    private final int[] memory = new int[640];
    private final int[] counts = new int[8];
    private long data;

    PlainCrossbar() {
        for (int i = 0; i < 4; i++) {
            waiting.add(new ArrayDeque<>());
            boxes.add(new ArrayDeque<>());
            queues.add(new ArrayDeque<>());
            answers.add(new ArrayDeque<>());
        }
    }

    int request(int master, int source, int sort, int z, int address, long bytes, int mask) {
        if ((master(master, 2) & 1 << source) != 0 || waiting.get(master).size() == 8) {
            return -1;
        }
        Request r = new Request();
        r.master = master;
        r.source = source;
        r.sort = sort;
        r.z = z;
        r.address = address;
        r.data = bytes;
        r.mask = mask;
        r.port = address / 256 < 2 ? address / 256 : address < 640 ? 2 : 3;
        flight.add(r);
        waiting.get(master).addLast(r);
        counts[1]++;
        return waiting.get(master).size();
    }

    boolean accept(int master, boolean yes) {
        boolean did = accepts[master];
        accepts[master] = yes;
        return did;
    }

    int tick(int n) {
        for (int i = 0; i < n; i++) {
            int moves = answersMove() + jobsMove() + requestsMove();
            counts[0]++;
            counts[7] += moves == 0 ? 1 : 0;
        }
        return counts[0];
    }

    private int answersMove() {
        int moves = 0;
        for (int m = 0; m < 3; m++) {
            for (int turn = 0; turn < 4 && accepts[m] && boxes.get(m).size() < 4; turn++) {
                int p = (firstPort[m] + turn) % 4;
                Request r = answers.get(p).peekFirst();
                if (r != null && r.master == m) {
                    boxes.get(m).addLast(answers.get(p).pollFirst());
                    ids[p][r.id] = null;
                    firstPort[m] = (p + 1) % 4;
                    counts[4]++;
                    moves++;
                    break;
                }
            }
        }
        return moves;
    }

    private int jobsMove() {
        int moves = 0;
        for (int p = 0; p < 4; p++) {
            if (jobs[p] != null) {
                left[p] = Math.max(0, left[p] - 1);
                if (left[p] == 0 && answers.get(p).size() < 2) {
                    carryOut(jobs[p]);
                    answers.get(p).addLast(jobs[p]);
                    log.add(64 * p + 8 * jobs[p].master + jobs[p].source);
                    jobs[p] = null;
                    jobsDone[p]++;
                    counts[3]++;
                    moves++;
                }
            }
            if (jobs[p] == null && !queues.get(p).isEmpty()) {
                jobs[p] = queues.get(p).pollFirst();
                left[p] = DELAYS[p] + Math.max(1, (1 << jobs[p].z) / WIDTHS[p]);
                moves++;
            }
        }
        return moves;
    }

    private void carryOut(Request r) {
        for (int i = 0; i < 1 << r.z && r.port != 3; i++) {
            if (r.sort == 0) {
                r.answer += (long) memory[r.address + i] << 8 * i;
            } else if (r.sort == 1 || (r.mask & 1 << i) != 0) {
                memory[r.address + i] = (int) (r.data >>> 8 * i & 255);
            }
        }
    }

    private int requestsMove() {
        int moves = 0;
        for (int p = 0; p < 4; p++) {
            for (int turn = 0; turn < 3 && queues.get(p).size() < 2 && port(p, 3) < 4; turn++) {
                int m = (firstMaster[p] + turn) % 3;
                Request r = waiting.get(m).peekFirst();
                if (r != null && r.port == p) {
                    queues.get(p).addLast(waiting.get(m).pollFirst());
                    r.id = 0;
                    while (ids[p][r.id] != null) {
                        r.id++;
                    }
                    ids[p][r.id] = r;
                    firstMaster[p] = (m + 1) % 3;
                    counts[2]++;
                    moves++;
                    break;
                }
            }
        }
        return moves;
    }

    int take(int master) {
        Request r = boxes.get(master).pollFirst();
        if (r == null) {
            return -1;
        }
        flight.remove(r);
        data = r.answer;
        counts[5]++;
        counts[6] += r.port == 3 ? 1 : 0;
        return r.source + 8 * r.sort + (r.port == 3 ? 32 : 0);
    }

    long data() {
        return data;
    }

    int port(int p, int what) {
        int used = 0;
        for (Request r : ids[p]) {
            used += r == null ? 0 : 1;
        }
        int[] row = {queues.get(p).size(), jobs[p] == null ? -1 : left[p], answers.get(p).size(), used,
            jobsDone[p]};
        return row[what];
    }

    int owner(int p, int id) {
        return ids[p][id] == null ? -1 : 8 * ids[p][id].master + ids[p][id].source;
    }

    int master(int m, int what) {
        int bits = 0;
        for (Request r : flight) {
            bits |= r.master == m ? 1 << r.source : 0;
        }
        int[] row = {waiting.get(m).size(), boxes.get(m).size(), bits, accepts[m] ? 1 : 0};
        return row[what];
    }

    int memory(int address) {
        return memory[address];
    }

    int done(int k) {
        return k < 0 || k > 31 || k >= log.size() ? -1 : log.get(log.size() - 1 - k);
    }

    int count(int what) {
        return what < 0 || what > 7 ? -1 : counts[what];
    }
}

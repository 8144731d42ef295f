/**
 * A crossbar between three masters and four ports, as ../shared/DOC.md tells it.
 *
 * <p>A source is in flight at most once, so "8 times the master, and the source" is a key of a
 * request from its first call until its answer is taken: lines hold keys alone, and the 24 messages
 * that there can be are made once and used again.
 */
public final class MessageCrossbar {
    public static final int NONE = -1;

    private static final int MASTERS = 3;
    private static final int PORTS = 4;
    private static final int SOURCES = 8;
    private static final int IDS = 4;
    private static final int SORTS = 3;
    private static final int SIZES = 4;
    private static final int MASKS = 256;
    private static final int ADDRESSES = 1024;
    private static final int MEMORY_END = 640;

    private static final int MOST_WAITING = 8;
    private static final int MOST_IN_BOX = 4;
    private static final int MOST_REQUESTS = 2;
    private static final int MOST_ANSWERS = 2;
    private static final int MOST_TICKS = 10000;

    private static final int GET = 0;
    private static final int PUT = 1;

    private static final int KEY_SOURCE_BITS = 3;
    private static final int SORT_STEP = 8;
    private static final int DENIED_MARK = 32;
    private static final int DONE_PORT_STEP = 64;

    /** A power of two, so that a mask finds the place of the latest jobs. */
    private static final int LOG_LENGTH = 32;

    /** Where the addresses of each port end. */
    private static final int[] ENDS = {256, 512, 640, 1024};
    /** The widths 4, 1, 8, 8 as powers of two: sizes are powers too, so a shift divides. */
    private static final int[] WIDTH_POWERS = {2, 0, 3, 3};
    private static final int[] DELAYS = {2, 1, 3, 1};

    /** Places in the row of counts: the numbers of promise 12. */
    private static final int TICKS = 0;
    private static final int TOLD = 1;
    private static final int LEFT = 2;
    private static final int DONE = 3;
    private static final int BOXED = 4;
    private static final int TAKEN = 5;
    private static final int DENIED = 6;
    private static final int STILL = 7;
    private static final int COUNTS = 8;

    private final Master[] masters;
    private final Port[] ports;
    private final Message[] messages;
    private final byte[] bytes;
    private final int[] log;
    private final int[] counts;
    private long latestData;

    public MessageCrossbar() {
        masters = new Master[MASTERS];
        for (int m = 0; m < MASTERS; m++) {
            masters[m] = new Master();
        }
        ports = new Port[PORTS];
        for (int p = 0; p < PORTS; p++) {
            ports[p] = new Port();
        }
        messages = new Message[MASTERS * SOURCES];
        for (int key = 0; key < MASTERS * SOURCES; key++) {
            messages[key] = new Message();
        }
        bytes = new byte[MEMORY_END];
        log = new int[LOG_LENGTH];
        counts = new int[COUNTS];
        latestData = 0;
    }

    public int request(int master, int source, int sort, int z, int address, long data, int mask)
            throws IllegalArgumentException {
        if (!isBelow(master, MASTERS) || !isBelow(source, SOURCES) || !isBelow(sort, SORTS)
                || !isAligned(address, z) || !isBelow(mask, MASKS)) {
            throw new IllegalArgumentException();
        }
        Master from = masters[master];
        if (from.hasInFlight(source) || from.waiting.isFull()) {
            return NONE;
        }
        int key = (master << KEY_SOURCE_BITS) + source;
        messages[key].become(sort, z, address, data, mask);
        from.waiting.append(key);
        from.inFlight |= 1 << source;
        counts[TOLD]++;
        return from.waiting.size;
    }

    public boolean accept(int master, boolean yes) throws IllegalArgumentException {
        if (!isBelow(master, MASTERS)) {
            throw new IllegalArgumentException();
        }
        boolean before = masters[master].accepts;
        masters[master].accepts = yes;
        return before;
    }

    public int tick(int n) throws IllegalArgumentException {
        if (n < 0 || n > MOST_TICKS) {
            throw new IllegalArgumentException();
        }
        for (int i = 0; i < n; i++) {
            boolean moved = runTick();
            if (!moved && !anyJobRuns()) {
                // Nothing can change any more before the next call: the ticks that are left are alike.
                countStillTicks(n - 1 - i);
                break;
            }
        }
        return counts[TICKS];
    }

    public int take(int master) throws IllegalArgumentException {
        if (!isBelow(master, MASTERS)) {
            throw new IllegalArgumentException();
        }
        Master to = masters[master];
        int key = to.box.removeFirst();
        if (key == NONE) {
            return NONE;
        }
        int source = sourceOf(key);
        Message answer = messages[key];
        to.inFlight &= ~(1 << source);
        latestData = answer.data;
        counts[TAKEN]++;
        int told = source + SORT_STEP * answer.sort;
        if (!answer.isDenied()) {
            return told;
        }
        counts[DENIED]++;
        return told + DENIED_MARK;
    }

    public long data() {
        return latestData;
    }

    public int port(int p, int what) throws IndexOutOfBoundsException, IllegalArgumentException {
        if (!isBelow(p, PORTS)) {
            throw new IndexOutOfBoundsException();
        }
        Port asked = ports[p];
        switch (what) {
            case 0:
                return asked.requests.size;
            case 1:
                return asked.job == NONE ? NONE : asked.ticksLeft;
            case 2:
                return asked.answers.size;
            case 3:
                return asked.idsInUse();
            case 4:
                return asked.jobsDone;
            default:
                throw new IllegalArgumentException();
        }
    }

    public int owner(int p, int id) throws IndexOutOfBoundsException {
        if (!isBelow(p, PORTS) || !isBelow(id, IDS)) {
            throw new IndexOutOfBoundsException();
        }
        return ports[p].owners[id];
    }

    public int master(int m, int what) throws IndexOutOfBoundsException, IllegalArgumentException {
        if (!isBelow(m, MASTERS)) {
            throw new IndexOutOfBoundsException();
        }
        Master asked = masters[m];
        switch (what) {
            case 0:
                return asked.waiting.size;
            case 1:
                return asked.box.size;
            case 2:
                return asked.inFlight;
            case 3:
                return asked.accepts ? 1 : 0;
            default:
                throw new IllegalArgumentException();
        }
    }

    public int memory(int address) throws IndexOutOfBoundsException {
        if (!isBelow(address, MEMORY_END)) {
            throw new IndexOutOfBoundsException();
        }
        return bytes[address] & 255;
    }

    public int done(int k) {
        if (!isBelow(k, LOG_LENGTH) || k >= counts[DONE]) {
            return NONE;
        }
        return log[logPlace(counts[DONE] - 1 - k)];
    }

    public int count(int what) {
        return isBelow(what, COUNTS) ? counts[what] : NONE;
    }

    private boolean runTick() {
        boolean answered = moveAnswers();
        boolean served = servePorts();
        boolean requested = moveRequests();
        boolean moved = answered || served || requested;
        counts[TICKS]++;
        if (!moved) {
            counts[STILL]++;
        }
        return moved;
    }

    private boolean anyJobRuns() {
        for (int p = 0; p < PORTS; p++) {
            if (ports[p].ticksLeft > 0) {
                return true;
            }
        }
        return false;
    }

    private void countStillTicks(int n) {
        counts[TICKS] += n;
        counts[STILL] += n;
    }

    private boolean moveAnswers() {
        boolean moved = false;
        for (int m = 0; m < MASTERS; m++) {
            int p = nextAnsweringPort(m);
            if (p != NONE) {
                moveAnswer(p, m);
                moved = true;
            }
        }
        return moved;
    }

    private int nextAnsweringPort(int m) {
        if (!masters[m].hasRoomForAnswer()) {
            return NONE;
        }
        for (int step = 1; step <= PORTS; step++) {
            int p = stepBehind(masters[m].latestPort, step, PORTS);
            int key = ports[p].answers.first();
            if (key != NONE && masterOf(key) == m) {
                return p;
            }
        }
        return NONE;
    }

    private void moveAnswer(int p, int m) {
        int key = ports[p].answers.removeFirst();
        ports[p].releaseId(key);
        masters[m].box.append(key);
        masters[m].latestPort = p;
        counts[BOXED]++;
    }

    private boolean servePorts() {
        boolean moved = false;
        for (int p = 0; p < PORTS; p++) {
            ports[p].countDown();
            if (ports[p].canFinishJob()) {
                finishJob(p);
                moved = true;
            }
            if (ports[p].canBeginJob()) {
                beginJob(p);
                moved = true;
            }
        }
        return moved;
    }

    private void finishJob(int p) {
        int key = ports[p].finishJob();
        if (key == NONE) {
            return;
        }
        carryOut(messages[key]);
        log[logPlace(counts[DONE])] = DONE_PORT_STEP * p + key;
        counts[DONE]++;
    }

    private void beginJob(int p) {
        int key = ports[p].requests.removeFirst();
        if (key == NONE) {
            return;
        }
        ports[p].job = key;
        ports[p].ticksLeft = DELAYS[p] + Math.max(1, messages[key].size() >> WIDTH_POWERS[p]);
    }

    private void carryOut(Message message) {
        long answer = 0;
        if (!message.isDenied()) {
            if (message.sort == GET) {
                answer = readBytes(message);
            } else {
                writeBytes(message);
            }
        }
        message.data = answer;
    }

    private long readBytes(Message message) {
        long read = 0;
        for (int i = message.size() - 1; i >= 0; i--) {
            read = (read << 8) | (bytes[message.address + i] & 255);
        }
        return read;
    }

    private void writeBytes(Message message) {
        for (int i = 0; i < message.size(); i++) {
            if (message.writesByte(i)) {
                bytes[message.address + i] = (byte) (message.data >> (8 * i));
            }
        }
    }

    private boolean moveRequests() {
        boolean moved = false;
        for (int p = 0; p < PORTS; p++) {
            int m = nextRequestingMaster(p);
            if (m != NONE) {
                moveRequest(m, p);
                moved = true;
            }
        }
        return moved;
    }

    private int nextRequestingMaster(int p) {
        if (!ports[p].hasRoomForRequest()) {
            return NONE;
        }
        for (int step = 1; step <= MASTERS; step++) {
            int m = stepBehind(ports[p].latestMaster, step, MASTERS);
            int key = masters[m].waiting.first();
            if (key != NONE && messages[key].goesTo(p)) {
                return m;
            }
        }
        return NONE;
    }

    private void moveRequest(int m, int p) {
        int key = masters[m].waiting.removeFirst();
        ports[p].takeLeastId(key);
        ports[p].requests.append(key);
        ports[p].latestMaster = m;
        counts[LEFT]++;
    }

    private static boolean isBelow(int number, int end) {
        return number >= 0 && number < end;
    }

    private static boolean isAligned(int address, int z) {
        return isBelow(z, SIZES) && isBelow(address, ADDRESSES) && (address & ((1 << z) - 1)) == 0;
    }

    private static int masterOf(int key) {
        return key >> KEY_SOURCE_BITS;
    }

    private static int sourceOf(int key) {
        return key & (SOURCES - 1);
    }

    private static int logPlace(int number) {
        return number & (LOG_LENGTH - 1);
    }

    /** The place some steps (1 .. size) behind another one, where 0 comes behind the last. */
    private static int stepBehind(int place, int step, int size) {
        int next = place + step;
        return next >= size ? next - size : next;
    }

    /** Keys in the order in which they came. */
    private static final class Line {
        final int[] keys;
        int size;

        Line(int room) {
            keys = new int[room];
            size = 0;
        }

        boolean isFull() {
            return size >= keys.length;
        }

        int first() {
            return size == 0 ? NONE : keys[0];
        }

        void append(int key) {
            if (size < keys.length) {
                keys[size] = key;
                size++;
            }
        }

        int removeFirst() {
            if (size == 0) {
                return NONE;
            }
            int removed = keys[0];
            size--;
            for (int i = 0; i < size; i++) {
                keys[i] = keys[i + 1];
            }
            return removed;
        }
    }

    /** A request, and later its answer. */
    private static final class Message {
        int sort;
        int z;
        int address;
        /** What is to be written; once the job is done, what the answer tells. */
        long data;
        int mask;

        void become(int newSort, int newZ, int newAddress, long newData, int newMask) {
            sort = newSort;
            z = newZ;
            address = newAddress;
            data = newData;
            mask = newMask;
        }

        int size() {
            return 1 << z;
        }

        boolean isDenied() {
            return address >= MEMORY_END;
        }

        boolean writesByte(int i) {
            return sort == PUT || ((mask >> i) & 1) == 1;
        }

        boolean goesTo(int p) {
            return address < ENDS[p] && (p == 0 || address >= ENDS[p - 1]);
        }
    }

    private static final class Master {
        final Line waiting;
        final Line box;
        int inFlight;
        boolean accepts;
        /** The port that gave it an answer latest; at first the last one, so that turns begin with 0. */
        int latestPort;

        Master() {
            waiting = new Line(MOST_WAITING);
            box = new Line(MOST_IN_BOX);
            inFlight = 0;
            accepts = true;
            latestPort = PORTS - 1;
        }

        boolean hasInFlight(int source) {
            return ((inFlight >> source) & 1) == 1;
        }

        boolean hasRoomForAnswer() {
            return accepts && !box.isFull();
        }
    }

    private static final class Port {
        final Line requests;
        final Line answers;
        final int[] owners;
        int job;
        int ticksLeft;
        int jobsDone;
        /** The master that gave it a request latest; at first the last one, as with ports. */
        int latestMaster;

        Port() {
            requests = new Line(MOST_REQUESTS);
            answers = new Line(MOST_ANSWERS);
            owners = new int[IDS];
            for (int id = 0; id < IDS; id++) {
                owners[id] = NONE;
            }
            job = NONE;
            ticksLeft = 0;
            jobsDone = 0;
            latestMaster = MASTERS - 1;
        }

        void countDown() {
            if (ticksLeft > 0) {
                ticksLeft--;
            }
        }

        boolean canFinishJob() {
            return job != NONE && ticksLeft == 0 && !answers.isFull();
        }

        boolean canBeginJob() {
            return job == NONE && requests.size > 0;
        }

        int finishJob() {
            int finished = job;
            if (finished != NONE) {
                answers.append(finished);
                job = NONE;
                jobsDone++;
            }
            return finished;
        }

        boolean hasRoomForRequest() {
            return !requests.isFull() && idsInUse() < IDS;
        }

        int idsInUse() {
            int used = 0;
            for (int id = 0; id < IDS; id++) {
                if (owners[id] != NONE) {
                    used++;
                }
            }
            return used;
        }

        void takeLeastId(int key) {
            for (int id = 0; id < IDS; id++) {
                if (owners[id] == NONE) {
                    owners[id] = key;
                    return;
                }
            }
        }

        void releaseId(int key) {
            for (int id = 0; id < IDS; id++) {
                if (owners[id] == key) {
                    owners[id] = NONE;
                }
            }
        }
    }
}

/**
 * Releases of files as trees of digests, with proofs, approvals, serial numbers and histories.
 *
 * All rows are made in the constructors and used again: a call makes no object but the exception
 * that it throws, so that a long run of calls stays small.
 */
public final class ReleaseLeaves {
    public static final int NONE = -1;

    private static final int MOST_RELEASES = 10;
    private static final int MOST_FILES = 8;
    private static final int MOST_FILE_BYTES = 64;
    private static final int MOST_CHECK_BYTES = 300;
    private static final int MOST_SERIALS = 60;
    private static final int MOST_EVENTS = 100;
    private static final int HIGHEST_NAME = 65535;
    private static final int HIGHEST_BYTE = 255;
    private static final int PERSONS = 16;
    private static final int ROLES = 4;

    private static final int DIGEST_BYTES = 32;
    private static final int STEP_BYTES = 1 + DIGEST_BYTES;
    private static final int LEAF_MARK = 0;
    private static final int PAIR_MARK = 1;
    private static final int OTHER_AHEAD = 0;
    private static final int OTHER_BEHIND = 1;

    private static final int APPROVAL = 0;
    private static final int SERIAL = 1;
    private static final int WITHDRAWAL = 2;

    private static final int ASK_KIND = 0;
    private static final int ASK_SUBJECT = 1;
    private static final int ASK_ROLE = 2;

    private static final int SAME_BYTES = 0;
    private static final int OTHER_BYTES = 1;
    private static final int NEW_NAME = 2;

    private final Digester digester;
    // The closed releases stand first; the one behind them is the open one, so closing copies nothing.
    private final Release[] releases;
    private int closedCount;
    private final int[][] lists;
    private int withdrawnCount;
    private final int[] serialReleases;
    private int serialCount;
    private final EventLog log;
    private final Claim claim;
    private final int[] climbed;

    public ReleaseLeaves() {
        digester = new Digester();
        releases = new Release[MOST_RELEASES + 1];
        for (int i = 0; i < releases.length; i++) {
            releases[i] = new Release();
        }
        lists = new int[MOST_RELEASES + 1][DIGEST_BYTES];
        digester.begin();
        digester.finish(lists[0]);
        serialReleases = new int[MOST_SERIALS];
        log = new EventLog();
        claim = new Claim();
        climbed = new int[DIGEST_BYTES];
    }

    public int file(int name) throws IllegalArgumentException {
        if (name < 0 || name > HIGHEST_NAME) {
            throw new IllegalArgumentException("no name");
        }
        return releases[closedCount].addFile(name);
    }

    public boolean byteOf(int file, int b) throws IndexOutOfBoundsException, IllegalArgumentException {
        Release open = releases[closedCount];
        if (!open.hasFile(file)) {
            throw new IndexOutOfBoundsException("no such open file");
        }
        if (!isByte(b)) {
            throw new IllegalArgumentException("no byte");
        }
        return open.files[file].addByte(b);
    }

    public int close() {
        if (closedCount >= MOST_RELEASES) {
            return NONE;
        }
        int number = closedCount;
        Release closing = releases[number];
        closing.sortFiles();
        closing.tree.grow(closing.files, closing.fileCount, digester);
        digester.begin();
        digester.putAll(lists[number]);
        digester.putAll(closing.tree.top());
        digester.finish(lists[number + 1]);
        closedCount = number + 1;
        return number;
    }

    public int root(int release, int i) throws IndexOutOfBoundsException {
        Release closed = closedRelease(release);
        requireDigestPlace(i);
        return closed.tree.top()[i];
    }

    public int proof(int release, int file, int i) throws IndexOutOfBoundsException {
        Release closed = releaseWithLeaf(release, file);
        if (i < 0) {
            throw new IndexOutOfBoundsException("no byte ahead of the proof");
        }
        return closed.tree.proofByte(file, i);
    }

    public boolean check(int b) {
        return isByte(b) && claim.addByte(b);
    }

    public int checked() {
        if (!claim.isWellFormed() || claim.releaseNumber() >= closedCount) {
            return 0;
        }
        claim.climb(digester, climbed);
        return sameNumbers(climbed, releases[claim.releaseNumber()].tree.top(), DIGEST_BYTES) ? 1 : 0;
    }

    public int approve(int release, int person, int role)
            throws IndexOutOfBoundsException, IllegalArgumentException {
        Release closed = closedRelease(release);
        if (person < 0 || person >= PERSONS) {
            throw new IllegalArgumentException("no person");
        }
        if (role < 0 || role >= ROLES) {
            throw new IllegalArgumentException("no role");
        }
        closed.roles[person] = role;
        log.record(release, APPROVAL, person, role);
        return closed.isApproved() ? 1 : 0;
    }

    public int withdraw(int release) throws IndexOutOfBoundsException {
        Release closed = closedRelease(release);
        if (closed.withdrawn) {
            return NONE;
        }
        closed.withdrawn = true;
        withdrawnCount++;
        log.record(release, WITHDRAWAL, NONE, NONE);
        return withdrawnCount;
    }

    public int serial(int release) throws IndexOutOfBoundsException {
        Release closed = closedRelease(release);
        if (closed.withdrawn || !closed.isApproved() || serialCount >= MOST_SERIALS) {
            return NONE;
        }
        int number = serialCount;
        serialReleases[number] = release;
        serialCount = number + 1;
        log.record(release, SERIAL, number, NONE);
        return number;
    }

    public int history(int serial, int k, int what) throws IndexOutOfBoundsException {
        if (serial < 0 || serial >= serialCount) {
            throw new IndexOutOfBoundsException("no such serial number");
        }
        if (what < ASK_KIND || what > ASK_ROLE) {
            throw new IndexOutOfBoundsException("nothing such is told of an event");
        }
        int event = log.find(serialReleases[serial], k);
        return event == NONE ? NONE : log.tell(event, what);
    }

    public int digest(int release, int leaf, int i) throws IndexOutOfBoundsException {
        Release closed = releaseWithLeaf(release, leaf);
        requireDigestPlace(i);
        return closed.tree.node(0, leaf)[i];
    }

    public int growth(int from, int to, int i) throws IndexOutOfBoundsException {
        if (from < 0 || from > to || to > closedCount) {
            throw new IndexOutOfBoundsException("the list did not grow so");
        }
        if (i < 0) {
            throw new IndexOutOfBoundsException("no byte ahead of the growth");
        }
        int part = i / DIGEST_BYTES;
        int at = i % DIGEST_BYTES;
        int rootCount = to - from;
        if (part == 0) {
            return lists[from][at];
        }
        if (part <= rootCount) {
            return releases[from + part - 1].tree.top()[at];
        }
        return part == rootCount + 1 ? lists[to][at] : NONE;
    }

    public boolean poke(int at, int mask) throws IndexOutOfBoundsException {
        if (!claim.hasByte(at)) {
            throw new IndexOutOfBoundsException("no such byte of the check");
        }
        return claim.flip(at, mask);
    }

    public int changed(int release, int file) throws IndexOutOfBoundsException {
        StoredFile leaf = releaseWithLeaf(release, file).files[file];
        if (release == 0) {
            return NEW_NAME;
        }
        Release ahead = releases[release - 1];
        int earlier = ahead.findName(leaf.name);
        if (earlier == NONE) {
            return NEW_NAME;
        }
        return leaf.hasBytesOf(ahead.files[earlier]) ? SAME_BYTES : OTHER_BYTES;
    }

    public int made() {
        return closedCount;
    }

    public void clearCheck() {
        claim.empty();
    }

    private Release closedRelease(int release) throws IndexOutOfBoundsException {
        if (release < 0 || release >= closedCount) {
            throw new IndexOutOfBoundsException("no such release");
        }
        return releases[release];
    }

    private Release releaseWithLeaf(int release, int leaf) throws IndexOutOfBoundsException {
        Release closed = closedRelease(release);
        if (!closed.hasFile(leaf)) {
            throw new IndexOutOfBoundsException("no such leaf");
        }
        return closed;
    }

    private static void requireDigestPlace(int i) throws IndexOutOfBoundsException {
        if (i < 0 || i >= DIGEST_BYTES) {
            throw new IndexOutOfBoundsException("no such byte of a digest");
        }
    }

    private static boolean isByte(int b) {
        return b >= 0 && b <= HIGHEST_BYTE;
    }

    private static boolean sameNumbers(int[] one, int[] other, int count) {
        if (count > one.length || count > other.length) {
            return false;
        }
        for (int i = 0; i < count; i++) {
            if (one[i] != other[i]) {
                return false;
            }
        }
        return true;
    }

    /** A file of a release; once the release is closed, a leaf of it. */
    private static final class StoredFile {
        private int name;
        private final int[] bytes = new int[MOST_FILE_BYTES];
        private int length;

        boolean addByte(int b) {
            if (length >= MOST_FILE_BYTES) {
                return false;
            }
            bytes[length] = b;
            length++;
            return true;
        }

        boolean hasBytesOf(StoredFile other) {
            return length == other.length && sameNumbers(bytes, other.bytes, length);
        }

        void digestInto(Digester digester, int[] target) {
            digester.begin();
            digester.put(LEAF_MARK);
            digester.put(name / 256);
            digester.put(name % 256);
            digester.putPart(bytes, 0, length);
            digester.finish(target);
        }
    }

    /** A release, open or closed. */
    private static final class Release {
        private final StoredFile[] files = new StoredFile[MOST_FILES];
        private int fileCount;
        private final Tree tree = new Tree();
        private final int[] roles = new int[PERSONS];
        private boolean withdrawn;

        Release() {
            for (int i = 0; i < files.length; i++) {
                files[i] = new StoredFile();
            }
            for (int person = 0; person < roles.length; person++) {
                roles[person] = NONE;
            }
        }

        boolean hasFile(int number) {
            return number >= 0 && number < fileCount;
        }

        int addFile(int name) {
            if (fileCount >= MOST_FILES || findName(name) != NONE) {
                return NONE;
            }
            int number = fileCount;
            files[number].name = name;
            fileCount = number + 1;
            return number;
        }

        int findName(int name) {
            for (int i = 0; i < fileCount; i++) {
                if (files[i].name == name) {
                    return i;
                }
            }
            return NONE;
        }

        void sortFiles() {
            for (int i = 1; i < fileCount; i++) {
                StoredFile moving = files[i];
                int place = i;
                while (place > 0 && files[place - 1].name > moving.name) {
                    files[place] = files[place - 1];
                    place--;
                }
                files[place] = moving;
            }
        }

        boolean isApproved() {
            int first = NONE;
            for (int role : roles) {
                if (role == NONE) {
                    continue;
                }
                if (first != NONE && role != first) {
                    return true;
                }
                first = role;
            }
            return false;
        }
    }

    /** The rows of digests over a closed release's leaves. */
    private static final class Tree {
        // Eight leaves need rows of 8, 4, 2 and 1.
        private static final int MOST_ROWS = 4;
        private static final int MOST_NODES = 2 * MOST_FILES - 1;

        private final int[][] nodes = new int[MOST_NODES][DIGEST_BYTES];
        private final int[] widths = new int[MOST_ROWS];
        private int topRow;

        int[] node(int row, int place) {
            return nodes[rowStart(row) + place];
        }

        // Each row has half the room of the one below, so that a new object stays small.
        private static int rowStart(int row) {
            return 2 * MOST_FILES - (2 * MOST_FILES >> row);
        }

        int[] top() {
            return node(topRow, 0);
        }

        void grow(StoredFile[] leaves, int count, Digester digester) {
            // Without leaves this stays as the root; with leaves the first one takes its place.
            digester.begin();
            digester.finish(node(0, 0));
            for (int i = 0; i < count; i++) {
                leaves[i].digestInto(digester, node(0, i));
            }
            widths[0] = count;
            for (int row = 0; row + 1 < MOST_ROWS && widths[row] > 1; row++) {
                pairUp(row, digester);
                topRow = row + 1;
            }
        }

        private void pairUp(int row, Digester digester) {
            int width = widths[row];
            int pairs = width / 2;
            for (int i = 0; i < pairs; i++) {
                digester.begin();
                digester.put(PAIR_MARK);
                digester.putAll(node(row, 2 * i));
                digester.putAll(node(row, 2 * i + 1));
                digester.finish(node(row + 1, i));
            }
            if (width % 2 == 1) {
                System.arraycopy(node(row, width - 1), 0, node(row + 1, pairs), 0, DIGEST_BYTES);
            }
            widths[row + 1] = pairs + width % 2;
        }

        int proofByte(int leaf, int i) {
            if (i == 0) {
                return countSteps(leaf);
            }
            int row = findStepRow(leaf, (i - 1) / STEP_BYTES);
            if (row == NONE) {
                return NONE;
            }
            int at = (i - 1) % STEP_BYTES;
            int place = leaf >> row;
            int other = otherOf(place);
            if (at == 0) {
                return other < place ? OTHER_AHEAD : OTHER_BEHIND;
            }
            return node(row, other)[at - 1];
        }

        private int countSteps(int leaf) {
            int steps = 0;
            for (int row = 0; row < topRow; row++) {
                if (hasOther(leaf, row)) {
                    steps++;
                }
            }
            return steps;
        }

        private int findStepRow(int leaf, int step) {
            int seen = 0;
            for (int row = 0; row < topRow; row++) {
                if (hasOther(leaf, row)) {
                    if (seen == step) {
                        return row;
                    }
                    seen++;
                }
            }
            return NONE;
        }

        // Each row halves the places, so what came of a leaf stands at leaf >> row.
        private boolean hasOther(int leaf, int row) {
            return otherOf(leaf >> row) < widths[row];
        }

        private static int otherOf(int place) {
            return place ^ 1;
        }
    }

    /** The bytes of the CHECK. */
    private static final class Claim {
        private static final int RELEASE_AT = 0;
        private static final int NAME_AT = 1;
        private static final int LENGTH_AT = 3;
        private static final int FILE_AT = 4;

        private final int[] bytes = new int[MOST_CHECK_BYTES];
        private int count;

        boolean addByte(int b) {
            if (count >= MOST_CHECK_BYTES) {
                return false;
            }
            bytes[count] = b;
            count++;
            return true;
        }

        boolean hasByte(int at) {
            return at >= 0 && at < count;
        }

        boolean flip(int at, int mask) {
            int before = bytes[at];
            bytes[at] = before ^ (mask & HIGHEST_BYTE);
            return bytes[at] != before;
        }

        void empty() {
            count = 0;
        }

        int releaseNumber() {
            return bytes[RELEASE_AT];
        }

        private int stepCountAt() {
            return FILE_AT + bytes[LENGTH_AT];
        }

        private int stepAt(int step) {
            return stepCountAt() + 1 + step * STEP_BYTES;
        }

        boolean isWellFormed() {
            if (!hasByte(LENGTH_AT) || bytes[LENGTH_AT] > MOST_FILE_BYTES || !hasByte(stepCountAt())) {
                return false;
            }
            int steps = bytes[stepCountAt()];
            if (count != stepAt(steps)) {
                return false;
            }
            for (int step = 0; step < steps; step++) {
                if (bytes[stepAt(step)] > OTHER_BEHIND) {
                    return false;
                }
            }
            return true;
        }

        // Only for a well-formed CHECK: its lengths are used as they stand.
        void climb(Digester digester, int[] target) {
            digester.begin();
            digester.put(LEAF_MARK);
            digester.putPart(bytes, NAME_AT, LENGTH_AT - NAME_AT);
            digester.putPart(bytes, FILE_AT, bytes[LENGTH_AT]);
            digester.finish(target);
            int steps = bytes[stepCountAt()];
            for (int step = 0; step < steps; step++) {
                climbStep(stepAt(step), digester, target);
            }
        }

        private void climbStep(int at, Digester digester, int[] target) {
            digester.begin();
            digester.put(PAIR_MARK);
            if (bytes[at] == OTHER_AHEAD) {
                digester.putPart(bytes, at + 1, DIGEST_BYTES);
                digester.putAll(target);
            } else {
                digester.putAll(target);
                digester.putPart(bytes, at + 1, DIGEST_BYTES);
            }
            digester.finish(target);
        }
    }

    /** The first events of all releases, in order. */
    private static final class EventLog {
        private final int[] owners = new int[MOST_EVENTS];
        private final int[] kinds = new int[MOST_EVENTS];
        private final int[] subjects = new int[MOST_EVENTS];
        private final int[] roles = new int[MOST_EVENTS];
        private int count;

        void record(int release, int kind, int subject, int role) {
            if (count >= MOST_EVENTS) {
                return;
            }
            owners[count] = release;
            kinds[count] = kind;
            subjects[count] = subject;
            roles[count] = role;
            count++;
        }

        int find(int release, int k) {
            int seen = 0;
            for (int event = 0; event < count; event++) {
                if (owners[event] == release) {
                    if (seen == k) {
                        return event;
                    }
                    seen++;
                }
            }
            return NONE;
        }

        int tell(int event, int what) {
            if (what == ASK_KIND) {
                return kinds[event];
            }
            return what == ASK_SUBJECT ? subjects[event] : roles[event];
        }
    }

    /** SHA-256 by FIPS 180-4 of bytes that come one by one. */
    private static final class Digester {
        private static final int BLOCK_BYTES = 64;
        private static final int BLOCK_WORDS = 16;
        private static final int LENGTH_FIELD_BYTES = 8;
        private static final int STATE_WORDS = 8;

        private static final int[] START = {
            0x6a09e667, 0xbb67ae85, 0x3c6ef372, 0xa54ff53a, 0x510e527f, 0x9b05688c, 0x1f83d9ab, 0x5be0cd19
        };

        private static final int[] ROUNDS = {
            0x428a2f98, 0x71374491, 0xb5c0fbcf, 0xe9b5dba5, 0x3956c25b, 0x59f111f1, 0x923f82a4, 0xab1c5ed5,
            0xd807aa98, 0x12835b01, 0x243185be, 0x550c7dc3, 0x72be5d74, 0x80deb1fe, 0x9bdc06a7, 0xc19bf174,
            0xe49b69c1, 0xefbe4786, 0x0fc19dc6, 0x240ca1cc, 0x2de92c6f, 0x4a7484aa, 0x5cb0a9dc, 0x76f988da,
            0x983e5152, 0xa831c66d, 0xb00327c8, 0xbf597fc7, 0xc6e00bf3, 0xd5a79147, 0x06ca6351, 0x14292967,
            0x27b70a85, 0x2e1b2138, 0x4d2c6dfc, 0x53380d13, 0x650a7354, 0x766a0abb, 0x81c2c92e, 0x92722c85,
            0xa2bfe8a1, 0xa81a664b, 0xc24b8b70, 0xc76c51a3, 0xd192e819, 0xd6990624, 0xf40e3585, 0x106aa070,
            0x19a4c116, 0x1e376c08, 0x2748774c, 0x34b0bcb5, 0x391c0cb3, 0x4ed8aa4a, 0x5b9cca4f, 0x682e6ff3,
            0x748f82ee, 0x78a5636f, 0x84c87814, 0x8cc70208, 0x90befffa, 0xa4506ceb, 0xbef9a3f7, 0xc67178f2
        };

        private final int[] state = new int[STATE_WORDS];
        private final int[] schedule = new int[ROUNDS.length];
        private int length;

        void begin() {
            System.arraycopy(START, 0, state, 0, STATE_WORDS);
            length = 0;
        }

        void put(int b) {
            int at = length & (BLOCK_BYTES - 1);
            int word = at >> 2;
            // Four bytes push the word's old bits out, so it needs no clearing.
            schedule[word] = (schedule[word] << 8) | (b & HIGHEST_BYTE);
            length++;
            if (at == BLOCK_BYTES - 1) {
                spreadSchedule();
                mixBlock();
            }
        }

        void putAll(int[] bytes) {
            for (int b : bytes) {
                put(b);
            }
        }

        void putPart(int[] bytes, int from, int count) {
            int end = Math.min(from + count, bytes.length);
            for (int i = from; i < end; i++) {
                put(bytes[i]);
            }
        }

        void finish(int[] target) {
            int bits = length * 8;
            put(128);
            int zeros = (BLOCK_BYTES - LENGTH_FIELD_BYTES - length) & (BLOCK_BYTES - 1);
            // No message here is long enough to need the upper half of the length field.
            for (int i = 0; i < zeros + 4; i++) {
                put(0);
            }
            put(bits >>> 24);
            put(bits >>> 16);
            put(bits >>> 8);
            put(bits);
            for (int i = 0; i < DIGEST_BYTES && i < target.length; i++) {
                target[i] = (state[i >> 2] >>> (24 - 8 * (i & 3))) & HIGHEST_BYTE;
            }
        }

        private void spreadSchedule() {
            for (int i = BLOCK_WORDS; i < schedule.length; i++) {
                int early = schedule[i - 15];
                int late = schedule[i - 2];
                int spreadEarly = turn(early, 7) ^ turn(early, 18) ^ (early >>> 3);
                int spreadLate = turn(late, 17) ^ turn(late, 19) ^ (late >>> 10);
                schedule[i] = schedule[i - 16] + spreadEarly + schedule[i - 7] + spreadLate;
            }
        }

        private void mixBlock() {
            int a = state[0];
            int b = state[1];
            int c = state[2];
            int d = state[3];
            int e = state[4];
            int f = state[5];
            int g = state[6];
            int h = state[7];
            for (int i = 0; i < ROUNDS.length; i++) {
                int high = turn(e, 6) ^ turn(e, 11) ^ turn(e, 25);
                int choice = (e & f) ^ (~e & g);
                int first = h + high + choice + ROUNDS[i] + schedule[i];
                int low = turn(a, 2) ^ turn(a, 13) ^ turn(a, 22);
                int majority = (a & b) ^ (a & c) ^ (b & c);
                h = g;
                g = f;
                f = e;
                e = d + first;
                d = c;
                c = b;
                b = a;
                a = first + low + majority;
            }
            state[0] += a;
            state[1] += b;
            state[2] += c;
            state[3] += d;
            state[4] += e;
            state[5] += f;
            state[6] += g;
            state[7] += h;
        }

        private static int turn(int word, int by) {
            return (word >>> by) | (word << (32 - by));
        }
    }
}

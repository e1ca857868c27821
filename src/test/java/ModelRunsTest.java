import java.io.ByteArrayOutputStream;
import java.security.MessageDigest;
import java.security.NoSuchAlgorithmException;
import java.util.ArrayList;
import java.util.Arrays;
import java.util.HashMap;
import java.util.HashSet;
import java.util.List;
import java.util.Map;
import java.util.Random;
import java.util.Set;
import java.util.TreeMap;

/** Runs of 512 calls, right and wrong ones, against a plain model of the document; the seeds are fixed. */
public final class ModelRunsTest {
    private static final int RUNS = 600;
    private static final int CALLS = 512;
    private static final int[] ODD = {Integer.MIN_VALUE, -256, -1, 255, 256, 300, 65536, Integer.MAX_VALUE};

    private static final String INDEX = "IndexOutOfBoundsException";
    private static final String ARGUMENT = "IllegalArgumentException";

    public static void main(String[] args) {
        int wrong = 0;
        Map<String, Integer> seen = new TreeMap<>();
        for (int run = 0; run < RUNS && wrong < 20; run++) {
            wrong += new Run(run, seen).play();
        }
        wrong += missing(seen);
        System.out.println(wrong == 0 ? "all runs are as the model's" : wrong + " answers are not as the model's");
        if (wrong != 0) {
            System.exit(1);
        }
    }

    // Runs that never reach an answer test nothing of it.
    private static int missing(Map<String, Integer> seen) {
        String[] due = {
            "checked 1", "checked 0", "serial -1", "serial 59", "history 0", "history 1", "history 2",
            "history -1", "changed 0", "changed 1", "changed 2", "close 9", "close -1", "file 7", "file -1",
            "byteOf 0", "check 0", "poke 0", "poke 1", "withdraw 3", "withdraw -1", "proof -1", "growth -1",
            "approve 0", "approve 1", "approve " + INDEX, "approve " + ARGUMENT, "byteOf " + INDEX,
            "byteOf " + ARGUMENT, "file " + ARGUMENT, "root " + INDEX, "proof " + INDEX, "digest " + INDEX,
            "growth " + INDEX, "poke " + INDEX, "changed " + INDEX, "history " + INDEX, "serial " + INDEX,
            "withdraw " + INDEX,
        };
        int missing = 0;
        for (String answer : due) {
            if (!seen.containsKey(answer)) {
                missing++;
                System.out.println("no run came to: " + answer);
            }
        }
        return missing;
    }

    private static final class Run {
        private final int number;
        private final Map<String, Integer> seen;
        private final Random random;
        private final ReleaseLeaves real = new ReleaseLeaves();
        private final Model model = new Model();
        private final int[] weights = new int[19];
        private final int names;
        private final List<int[]> planned = new ArrayList<>();

        Run(int number, Map<String, Integer> seen) {
            this.number = number;
            this.seen = seen;
            random = new Random(number);
            names = 1 + random.nextInt(14);
            for (int i = 0; i < weights.length; i++) {
                weights[i] = 1 + (random.nextInt(3) == 0 ? random.nextInt(20) : random.nextInt(3));
            }
        }

        int play() {
            for (int i = 0; i < CALLS; i++) {
                int[] call = planned.isEmpty() ? nextCall() : planned.remove(0);
                String got = answerOf(real, call);
                String due = model.answer(call);
                seen.merge(NAMES[call[0]] + " " + due, 1, Integer::sum);
                if (!got.equals(due)) {
                    System.out.println("run " + number + " call " + i + ": " + NAMES[call[0]]
                            + Arrays.toString(Arrays.copyOfRange(call, 1, 4)) + " answered " + got
                            + ", the model's answer is " + due);
                    return 1;
                }
            }
            return 0;
        }

        private int[] nextCall() {
            int kind = pick();
            int made = model.closed.size();
            int release = near(made);
            switch (kind) {
                case 0: return call(0, random.nextInt(12) == 0 ? odd() : 250 + random.nextInt(names), 0, 0);
                case 1: return call(1, near(model.open.size()), smallByte(), 0);
                case 2: return call(2, 0, 0, 0);
                case 3: return call(3, release, near(32), 0);
                case 4: return call(4, release, near(leaves(release)), near(101));
                case 5: return call(5, smallByte(), 0, 0);
                case 7: return call(7, release, near(16), near(4));
                case 8: return call(8, random.nextInt(4) == 0 ? release : near(3), 0, 0);
                case 9: return call(9, release, 0, 0);
                case 10: return call(10, near(model.serials.size()), near(12), near(3));
                case 11: return call(11, release, near(leaves(release)), near(32));
                case 12: return call(12, near(made), near(made + 1), near(32 * (made + 2)));
                case 13: return call(13, near(model.check.size()), random.nextInt(8) == 0 ? odd() : 1, 0);
                case 14: return call(14, release, near(leaves(release)), 0);
                case 17: return planCheck();
                case 18: return planFill();
                default: return call(kind, 0, 0, 0);
            }
        }

        // A whole CHECK of a leaf, at times with one byte spoiled and mended again.
        private int[] planCheck() {
            int release = near(model.closed.size());
            if (leaves(release) == 0) {
                return call(2, 0, 0, 0);
            }
            int leaf = random.nextInt(leaves(release));
            byte[] claim = model.claimOf(release, leaf);
            for (byte b : claim) {
                planned.add(call(5, b & 255, 0, 0));
            }
            planned.add(call(6, 0, 0, 0));
            int at = random.nextInt(claim.length);
            int mask = 1 << random.nextInt(8);
            planned.add(call(13, at, mask, 0));
            planned.add(call(6, 0, 0, 0));
            planned.add(call(13, at, mask, 0));
            planned.add(call(6, 0, 0, 0));
            return call(16, 0, 0, 0);
        }

        // The limits lie far off: a full file, a full CHECK, all serial numbers.
        private int[] planFill() {
            int what = random.nextInt(30);
            if (what == 0 && !model.open.isEmpty()) {
                int file = random.nextInt(model.open.size());
                for (int i = 0; i < 66; i++) {
                    planned.add(call(1, file, i, 0));
                }
            } else if (what == 1) {
                for (int i = 0; i < 302; i++) {
                    planned.add(call(5, i % 256, 0, 0));
                }
            } else if (what == 2 && !model.closed.isEmpty()) {
                int release = random.nextInt(model.closed.size());
                planned.add(call(7, release, 1, 1));
                planned.add(call(7, release, 2, 2));
                for (int i = 0; i < 62; i++) {
                    planned.add(call(9, release, 0, 0));
                }
            }
            return call(15, 0, 0, 0);
        }

        private int pick() {
            int sum = 0;
            for (int weight : weights) {
                sum += weight;
            }
            int left = random.nextInt(sum);
            for (int i = 0; i < weights.length; i++) {
                left -= weights[i];
                if (left < 0) {
                    return i;
                }
            }
            return 0;
        }

        private int leaves(int release) {
            return release < 0 || release >= model.closed.size() ? 0 : model.closed.get(release).size();
        }

        private int near(int bound) {
            int dice = random.nextInt(24);
            if (dice == 0) {
                return odd();
            }
            if (dice == 1) {
                return bound;
            }
            return bound == 0 ? 0 : random.nextInt(bound);
        }

        private int smallByte() {
            return random.nextInt(16) == 0 ? odd() : random.nextInt(3);
        }

        private int odd() {
            return ODD[random.nextInt(ODD.length)];
        }

        private static int[] call(int kind, int a, int b, int c) {
            return new int[] {kind, a, b, c};
        }
    }

    private static final String[] NAMES = {
        "file", "byteOf", "close", "root", "proof", "check", "checked", "approve", "withdraw", "serial",
        "history", "digest", "growth", "poke", "changed", "made", "clearCheck",
    };

    private static String answerOf(ReleaseLeaves x, int[] call) {
        try {
            return String.valueOf(realAnswer(x, call[0], call[1], call[2], call[3]));
        } catch (RuntimeException e) {
            return e.getClass().getSimpleName();
        }
    }

    private static int realAnswer(ReleaseLeaves x, int kind, int a, int b, int c) {
        switch (kind) {
            case 0: return x.file(a);
            case 1: return x.byteOf(a, b) ? 1 : 0;
            case 2: return x.close();
            case 3: return x.root(a, b);
            case 4: return x.proof(a, b, c);
            case 5: return x.check(a) ? 1 : 0;
            case 6: return x.checked();
            case 7: return x.approve(a, b, c);
            case 8: return x.withdraw(a);
            case 9: return x.serial(a);
            case 10: return x.history(a, b, c);
            case 11: return x.digest(a, b, c);
            case 12: return x.growth(a, b, c);
            case 13: return x.poke(a, b) ? 1 : 0;
            case 14: return x.changed(a, b);
            case 15: return x.made();
            default: x.clearCheck(); return 0;
        }
    }

    /** The document once more, with the Java library and without a care for room. */
    private static final class Model {
        private final List<Integer> open = new ArrayList<>();
        private final Map<Integer, ByteArrayOutputStream> openBytes = new HashMap<>();
        private final List<TreeMap<Integer, byte[]>> closed = new ArrayList<>();
        private final List<Map<Integer, Integer>> approvals = new ArrayList<>();
        private final Set<Integer> withdrawn = new HashSet<>();
        private final List<Integer> serials = new ArrayList<>();
        private final List<int[]> events = new ArrayList<>();
        private final List<Integer> check = new ArrayList<>();

        String answer(int[] call) {
            int a = call[1];
            int b = call[2];
            int c = call[3];
            switch (call[0]) {
                case 0: return file(a);
                case 1: return byteOf(a, b);
                case 2: return close();
                case 3: return !isRelease(a) || b < 0 || b > 31 ? INDEX : at(root(a), b);
                case 4: return !isLeaf(a, b) || c < 0 ? INDEX : at(proof(a, b), c);
                case 5: return check(a);
                case 6: return holds() ? "1" : "0";
                case 7: return approve(a, b, c);
                case 8: return withdraw(a);
                case 9: return serial(a);
                case 10: return history(a, b, c);
                case 11: return !isLeaf(a, b) || c < 0 || c > 31 ? INDEX : at(rows(a).get(0).get(b), c);
                case 12: return a < 0 || a > b || b > closed.size() || c < 0 ? INDEX : at(growth(a, b), c);
                case 13: return poke(a, b);
                case 14: return isLeaf(a, b) ? changed(a, b) : INDEX;
                case 15: return "" + closed.size();
                default: check.clear(); return "0";
            }
        }

        private boolean isRelease(int release) {
            return release >= 0 && release < closed.size();
        }

        private boolean isLeaf(int release, int leaf) {
            return isRelease(release) && leaf >= 0 && leaf < closed.get(release).size();
        }

        private static String at(byte[] bytes, int i) {
            return i < bytes.length ? "" + (bytes[i] & 255) : "-1";
        }

        private String file(int name) {
            if (name < 0 || name > 65535) {
                return ARGUMENT;
            }
            if (open.size() == 8 || open.contains(name)) {
                return "-1";
            }
            open.add(name);
            openBytes.put(name, new ByteArrayOutputStream());
            return "" + (open.size() - 1);
        }

        private String byteOf(int file, int b) {
            if (file < 0 || file >= open.size()) {
                return INDEX;
            }
            if (b < 0 || b > 255) {
                return ARGUMENT;
            }
            ByteArrayOutputStream bytes = openBytes.get(open.get(file));
            if (bytes.size() == 64) {
                return "0";
            }
            bytes.write(b);
            return "1";
        }

        private String close() {
            if (closed.size() == 10) {
                return "-1";
            }
            TreeMap<Integer, byte[]> release = new TreeMap<>();
            for (int name : open) {
                release.put(name, openBytes.get(name).toByteArray());
            }
            closed.add(release);
            approvals.add(new HashMap<>());
            open.clear();
            openBytes.clear();
            return "" + (closed.size() - 1);
        }

        private List<List<byte[]>> rows(int release) {
            List<byte[]> row = new ArrayList<>();
            closed.get(release).forEach((name, content) -> row.add(leaf(name, content)));
            List<List<byte[]>> rows = new ArrayList<>();
            rows.add(row);
            while (rows.get(rows.size() - 1).size() > 1) {
                List<byte[]> below = rows.get(rows.size() - 1);
                List<byte[]> above = new ArrayList<>();
                for (int i = 0; i < below.size(); i += 2) {
                    above.add(i + 1 == below.size() ? below.get(i) : pair(below.get(i), below.get(i + 1)));
                }
                rows.add(above);
            }
            return rows;
        }

        private byte[] root(int release) {
            List<List<byte[]>> rows = rows(release);
            List<byte[]> last = rows.get(rows.size() - 1);
            return last.isEmpty() ? sha() : last.get(0);
        }

        private byte[] proof(int release, int leaf) {
            ByteArrayOutputStream steps = new ByteArrayOutputStream();
            int place = leaf;
            for (List<byte[]> row : rows(release)) {
                int other = place % 2 == 0 ? place + 1 : place - 1;
                if (other < row.size()) {
                    steps.write(other < place ? 0 : 1);
                    steps.writeBytes(row.get(other));
                }
                place /= 2;
            }
            return joined(new byte[] {(byte) (steps.size() / 33)}, steps.toByteArray());
        }

        byte[] claimOf(int release, int leaf) {
            int name = new ArrayList<>(closed.get(release).keySet()).get(leaf);
            byte[] content = closed.get(release).get(name);
            byte[] head = {(byte) release, (byte) (name / 256), (byte) name, (byte) content.length};
            return joined(head, content, proof(release, leaf));
        }

        private String check(int b) {
            if (b < 0 || b > 255 || check.size() == 300) {
                return "0";
            }
            check.add(b);
            return "1";
        }

        // Another road than the class's: a CHECK holds when it is one of those that the leaves have.
        private boolean holds() {
            byte[] bytes = new byte[check.size()];
            for (int i = 0; i < bytes.length; i++) {
                bytes[i] = (byte) (int) check.get(i);
            }
            for (int release = 0; release < closed.size(); release++) {
                for (int leaf = 0; leaf < closed.get(release).size(); leaf++) {
                    if (Arrays.equals(bytes, claimOf(release, leaf))) {
                        return true;
                    }
                }
            }
            return false;
        }

        private boolean isApproved(int release) {
            return new HashSet<>(approvals.get(release).values()).size() > 1;
        }

        private void event(int release, int kind, int subject, int role) {
            events.add(new int[] {release, kind, subject, role});
        }

        private String approve(int release, int person, int role) {
            if (!isRelease(release)) {
                return INDEX;
            }
            if (person < 0 || person > 15 || role < 0 || role > 3) {
                return ARGUMENT;
            }
            approvals.get(release).put(person, role);
            event(release, 0, person, role);
            return isApproved(release) ? "1" : "0";
        }

        private String withdraw(int release) {
            if (!isRelease(release)) {
                return INDEX;
            }
            if (!withdrawn.add(release)) {
                return "-1";
            }
            event(release, 2, -1, -1);
            return "" + withdrawn.size();
        }

        private String serial(int release) {
            if (!isRelease(release)) {
                return INDEX;
            }
            if (withdrawn.contains(release) || !isApproved(release) || serials.size() == 60) {
                return "-1";
            }
            serials.add(release);
            event(release, 1, serials.size() - 1, -1);
            return "" + (serials.size() - 1);
        }

        private String history(int serial, int k, int what) {
            if (serial < 0 || serial >= serials.size() || what < 0 || what > 2) {
                return INDEX;
            }
            List<int[]> own = new ArrayList<>();
            for (int[] event : events.subList(0, Math.min(100, events.size()))) {
                if (event[0] == serials.get(serial)) {
                    own.add(event);
                }
            }
            return k < 0 || k >= own.size() ? "-1" : "" + own.get(k)[what + 1];
        }

        private byte[] list(int count) {
            return count == 0 ? sha() : sha(list(count - 1), root(count - 1));
        }

        private byte[] growth(int from, int to) {
            byte[] bytes = list(from);
            for (int release = from; release < to; release++) {
                bytes = joined(bytes, root(release));
            }
            return joined(bytes, list(to));
        }

        private String poke(int at, int mask) {
            if (at < 0 || at >= check.size()) {
                return INDEX;
            }
            check.set(at, check.get(at) ^ (mask & 255));
            return mask % 256 == 0 ? "0" : "1";
        }

        private String changed(int release, int leaf) {
            int name = new ArrayList<>(closed.get(release).keySet()).get(leaf);
            if (release == 0 || !closed.get(release - 1).containsKey(name)) {
                return "2";
            }
            return Arrays.equals(closed.get(release).get(name), closed.get(release - 1).get(name)) ? "0" : "1";
        }

        private static byte[] leaf(int name, byte[] content) {
            return sha(new byte[] {0, (byte) (name >> 8), (byte) name}, content);
        }

        private static byte[] pair(byte[] one, byte[] other) {
            return sha(new byte[] {1}, one, other);
        }
    }

    private static byte[] joined(byte[]... parts) {
        ByteArrayOutputStream out = new ByteArrayOutputStream();
        for (byte[] part : parts) {
            out.writeBytes(part);
        }
        return out.toByteArray();
    }

    private static byte[] sha(byte[]... parts) {
        try {
            return MessageDigest.getInstance("SHA-256").digest(joined(parts));
        } catch (NoSuchAlgorithmException e) {
            throw new IllegalStateException(e);
        }
    }
}

import support.Answers;
import support.Measure;

/** Runs of calls that many tests need, and whole digests against their measure. */
final class Drive {
    private Drive() {
    }

    /** A file of the open release with its bytes. */
    static int file(ReleaseLeaves x, int name, int... content) {
        int file = x.file(name);
        for (int b : content) {
            x.byteOf(file, b);
        }
        return file;
    }

    /** A release of files without bytes. */
    static ReleaseLeaves closedWith(int... names) {
        ReleaseLeaves x = new ReleaseLeaves();
        closeWith(x, names);
        return x;
    }

    static void closeWith(ReleaseLeaves x, int... names) {
        for (int name : names) {
            x.file(name);
        }
        x.close();
    }

    /** So many releases without files. */
    static ReleaseLeaves withEmptyReleases(int count) {
        ReleaseLeaves x = new ReleaseLeaves();
        for (int i = 0; i < count; i++) {
            x.close();
        }
        return x;
    }

    static void feed(ReleaseLeaves x, byte[] bytes) {
        for (byte b : bytes) {
            x.check(b & 255);
        }
    }

    static void approveByTwo(ReleaseLeaves x, int release) {
        x.approve(release, 1, 0);
        x.approve(release, 2, 1);
    }

    /** The digests of leaves without bytes. */
    static byte[][] leaves(int... names) {
        byte[][] row = new byte[names.length][];
        for (int i = 0; i < names.length; i++) {
            row[i] = Measure.leaf(names[i], new byte[0]);
        }
        return row;
    }

    static void isRoot(String what, ReleaseLeaves x, int release, byte[] due) {
        for (int i = 0; i < 32; i++) {
            Answers.is(what + ", root byte " + i, x.root(release, i), due[i] & 255);
        }
    }

    static void isDigest(String what, ReleaseLeaves x, int release, int leaf, byte[] due) {
        for (int i = 0; i < 32; i++) {
            Answers.is(what + ", digest byte " + i, x.digest(release, leaf, i), due[i] & 255);
        }
    }

    static void isEvent(ReleaseLeaves x, int serial, int k, int kind, int subject, int role) {
        String what = "event " + k + " of serial " + serial;
        Answers.is(what + ", kind", x.history(serial, k, 0), kind);
        Answers.is(what + ", person or number", x.history(serial, k, 1), subject);
        Answers.is(what + ", role", x.history(serial, k, 2), role);
    }
}

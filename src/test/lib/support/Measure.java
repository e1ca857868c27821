package support;

import java.io.ByteArrayOutputStream;
import java.security.MessageDigest;
import java.security.NoSuchAlgorithmException;

/** The document's digests, rows and proofs, measured by the Java library's SHA-256. */
public final class Measure {
    private Measure() {
    }

    public static byte[] sha(byte[]... parts) {
        try {
            return MessageDigest.getInstance("SHA-256").digest(joined(parts));
        } catch (NoSuchAlgorithmException e) {
            throw new IllegalStateException(e);
        }
    }

    public static byte[] leaf(int name, byte[] content) {
        return sha(bytes(0, name / 256, name % 256), content);
    }

    public static byte[] pair(byte[] one, byte[] other) {
        return sha(bytes(1), one, other);
    }

    public static byte[] rootOver(byte[][] leaves) {
        byte[][] row = leaves;
        while (row.length > 1) {
            row = rowAbove(row);
        }
        return row.length == 0 ? sha() : row[0];
    }

    public static byte[] proofIn(byte[][] leaves, int at) {
        byte[] steps = new byte[0];
        byte[][] row = leaves;
        int place = at;
        while (row.length > 1) {
            if (place % 2 == 1) {
                steps = joined(steps, bytes(0), row[place - 1]);
            } else if (place + 1 < row.length) {
                steps = joined(steps, bytes(1), row[place + 1]);
            }
            row = rowAbove(row);
            place /= 2;
        }
        return joined(bytes(steps.length / 33), steps);
    }

    private static byte[][] rowAbove(byte[][] row) {
        byte[][] above = new byte[(row.length + 1) / 2][];
        for (int i = 0; i < above.length; i++) {
            above[i] = 2 * i + 1 < row.length ? pair(row[2 * i], row[2 * i + 1]) : row[2 * i];
        }
        return above;
    }

    public static byte[] bytes(int... values) {
        byte[] made = new byte[values.length];
        for (int i = 0; i < values.length; i++) {
            made[i] = (byte) values[i];
        }
        return made;
    }

    public static byte[] joined(byte[]... parts) {
        ByteArrayOutputStream out = new ByteArrayOutputStream();
        for (byte[] part : parts) {
            out.writeBytes(part);
        }
        return out.toByteArray();
    }
}

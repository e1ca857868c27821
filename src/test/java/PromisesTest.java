import static support.Answers.ARGUMENT;
import static support.Answers.INDEX;
import static support.Answers.end;
import static support.Answers.fails;
import static support.Answers.is;
import static support.Answers.under;
import static support.Measure.bytes;
import static support.Measure.joined;
import static support.Measure.leaf;
import static support.Measure.pair;
import static support.Measure.proofIn;
import static support.Measure.rootOver;
import static support.Measure.sha;

import java.util.Arrays;

/**
 * Each promise of the document by hand: ordinary inputs, the edges that it names, wrong inputs.
 * No object is used for more than 512 calls, since answers behind them are free.
 */
public final class PromisesTest {
    private static final int NONE = ReleaseLeaves.NONE;
    private static final int[] WRONG_BYTES = {-1, 256, Integer.MIN_VALUE, Integer.MAX_VALUE};

    public static void main(String[] args) {
        promise1NewObject();
        promise2File();
        promise3ByteOf();
        promise4Close();
        promise5Root();
        promise6Proof();
        promise7Check();
        promise8Checked();
        promise8CheckedRefuses();
        promise9Approve();
        promise10Withdraw();
        promise11Serial();
        promise12History();
        promise12HistoryIsFull();
        promise13Digest();
        promise14Growth();
        promise15Poke();
        promise16Changed();
        promise17Made();
        promise18ClearCheck();
        end("all promises hold");
    }

    private static void promise1NewObject() {
        under("promise 1");
        ReleaseLeaves x = new ReleaseLeaves();
        is("made", x.made(), 0);
        is("checked", x.checked(), 0);
        fails("root", INDEX, () -> x.root(0, 0));
        fails("byteOf", INDEX, () -> x.byteOf(0, 0));
        fails("approve", INDEX, () -> x.approve(0, 0, 0));
        fails("history", INDEX, () -> x.history(0, 0, 0));
        fails("poke", INDEX, () -> x.poke(0, 1));
        is("growth", x.growth(0, 0, 0), sha()[0] & 255);
        is("the first file", x.file(1), 0);
        is("the first release", x.close(), 0);
        ReleaseLeaves y = new ReleaseLeaves();
        is("another object has its own releases", y.made(), 0);
        is("another object has its own files", y.file(1), 0);
    }

    private static void promise2File() {
        under("promise 2");
        ReleaseLeaves x = new ReleaseLeaves();
        is("lowest name", x.file(0), 0);
        is("highest name", x.file(65535), 1);
        is("a name again", x.file(0), NONE);
        is("a name again", x.file(65535), NONE);
        fails("a name below", ARGUMENT, () -> x.file(-1));
        fails("a name above", ARGUMENT, () -> x.file(65536));
        fails("lowest int", ARGUMENT, () -> x.file(Integer.MIN_VALUE));
        fails("highest int", ARGUMENT, () -> x.file(Integer.MAX_VALUE));
        for (int i = 2; i < 8; i++) {
            is("file " + i, x.file(100 - i), i);
        }
        is("a ninth", x.file(500), NONE);
        is("a ninth again", x.file(500), NONE);
        fails("no name when there are 8", ARGUMENT, () -> x.file(65536));
        x.close();
        is("the names are free again", x.file(65535), 0);
        is("the ninth name was not kept", x.file(500), 1);
    }

    private static void promise3ByteOf() {
        under("promise 3");
        ReleaseLeaves x = new ReleaseLeaves();
        x.file(3);
        x.file(2);
        fails("no such file", INDEX, () -> x.byteOf(2, 0));
        fails("no such file", INDEX, () -> x.byteOf(-1, 0));
        fails("no such file", INDEX, () -> x.byteOf(8, 0));
        fails("no such file", INDEX, () -> x.byteOf(Integer.MAX_VALUE, 0));
        fails("no such file, no byte", INDEX, () -> x.byteOf(2, 256));
        for (int b : WRONG_BYTES) {
            fails("no byte " + b, ARGUMENT, () -> x.byteOf(1, b));
        }
        byte[] content = new byte[64];
        for (int i = 0; i < 64; i++) {
            content[i] = (byte) (255 - i);
            is("byte " + i, x.byteOf(1, 255 - i), true);
        }
        is("a 65th", x.byteOf(1, 0), false);
        fails("no byte of a full file", ARGUMENT, () -> x.byteOf(1, 256));
        is("the other file has room", x.byteOf(0, 0), true);
        x.close();
        Drive.isDigest("the full file", x, 0, 0, leaf(2, content));
        Drive.isDigest("the other file", x, 0, 1, leaf(3, new byte[1]));
        fails("a closed file", INDEX, () -> x.byteOf(0, 0));
        x.file(2);
        is("a new file has room", x.byteOf(0, 5), true);
        x.close();
        Drive.isDigest("a new file begins empty", x, 1, 0, leaf(2, bytes(5)));
    }

    private static void promise4Close() {
        under("promise 4");
        ReleaseLeaves x = new ReleaseLeaves();
        for (int i = 0; i < 10; i++) {
            is("file of release " + i, x.file(7), 0);
            x.byteOf(0, i);
            is("release " + i, x.close(), i);
            fails("the open one has no files", INDEX, () -> x.byteOf(0, 0));
        }
        is("an open one behind the tenth", x.file(9), 0);
        is("an eleventh", x.close(), NONE);
        is("an eleventh again", x.close(), NONE);
        is("still ten", x.made(), 10);
        is("it stays open", x.byteOf(0, 1), true);
        is("it has its file", x.file(9), NONE);
        is("it takes more", x.file(8), 1);
        fails("it is not listed", INDEX, () -> x.root(10, 0));
        for (int i = 0; i < 10; i++) {
            Drive.isRoot("release " + i, x, i, leaf(7, bytes(i)));
        }
    }

    private static void promise5Root() {
        under("promise 5");
        for (int count = 0; count <= 8; count++) {
            ReleaseLeaves x = new ReleaseLeaves();
            closeWith(x, count, 1);
            Drive.isRoot(count + " leaves", x, 0, rootOf(count, 1));
            fails("i below", INDEX, () -> x.root(0, -1));
            fails("i above", INDEX, () -> x.root(0, 32));
            fails("i far above", INDEX, () -> x.root(0, Integer.MAX_VALUE));
            fails("no release", INDEX, () -> x.root(1, 0));
            fails("no release", INDEX, () -> x.root(-1, 0));
            fails("no release", INDEX, () -> x.root(10, 0));
            fails("no release", INDEX, () -> x.root(Integer.MIN_VALUE, 0));
        }
        ReleaseLeaves three = new ReleaseLeaves();
        three.file(300);
        three.file(5);
        three.file(70);
        three.close();
        byte[] pair = pair(leaf(5, bytes()), leaf(70, bytes()));
        Drive.isRoot("a last one goes up as it is", three, 0, pair(pair, leaf(300, bytes())));
    }

    private static void promise6Proof() {
        under("promise 6");
        for (int count = 1; count <= 8; count++) {
            for (int at = 0; at < count; at++) {
                isProof(count, at);
            }
            ReleaseLeaves x = new ReleaseLeaves();
            closeWith(x, count, 2);
            int behind = count;
            fails("no leaf", INDEX, () -> x.proof(0, behind, 0));
            fails("no leaf", INDEX, () -> x.proof(0, -1, 0));
            fails("i below", INDEX, () -> x.proof(0, 0, -1));
            fails("lowest i", INDEX, () -> x.proof(0, 0, Integer.MIN_VALUE));
            fails("no release", INDEX, () -> x.proof(1, 0, 0));
            fails("no release", INDEX, () -> x.proof(-1, 0, 0));
        }
        ReleaseLeaves empty = new ReleaseLeaves();
        empty.close();
        fails("no leaf at all", INDEX, () -> empty.proof(0, 0, 0));
    }

    private static void isProof(int count, int at) {
        ReleaseLeaves x = new ReleaseLeaves();
        closeWith(x, count, 2);
        byte[] due = proofOf(count, at, 2);
        String what = "leaf " + at + " of " + count;
        for (int i = 0; i < due.length; i++) {
            is(what + " byte " + i, x.proof(0, at, i), due[i] & 255);
        }
        is(what + " behind", x.proof(0, at, due.length), NONE);
        is(what + " far behind", x.proof(0, at, Integer.MAX_VALUE), NONE);
    }

    private static void promise7Check() {
        under("promise 7");
        ReleaseLeaves x = new ReleaseLeaves();
        for (int b : WRONG_BYTES) {
            is("no byte " + b, x.check(b), false);
        }
        fails("no byte was kept", INDEX, () -> x.poke(0, 1));
        for (int i = 0; i < 300; i++) {
            is("byte " + i, x.check(i % 256), true);
        }
        is("a 301st", x.check(0), false);
        is("a 301st again", x.check(255), false);
        is("the last place", x.poke(299, 1), true);
        fails("no place behind it", INDEX, () -> x.poke(300, 1));
    }

    private static void promise8Checked() {
        under("promise 8");
        for (int count = 1; count <= 8; count++) {
            for (int at = 0; at < count; at++) {
                holdsWhenWhole(count, at);
            }
        }
        ReleaseLeaves x = new ReleaseLeaves();
        x.file(40000);
        for (int i = 0; i < 64; i++) {
            x.byteOf(0, 200);
        }
        byte[] full = new byte[64];
        Arrays.fill(full, (byte) 200);
        byte[] claim = joined(bytes(0, 40000 / 256, 40000 % 256, 64), full, bytes(0));
        Drive.feed(x, claim);
        is("not yet closed", x.checked(), 0);
        x.close();
        is("closed, with 64 bytes", x.checked(), 1);
        x.withdraw(0);
        is("a withdrawn one stays listed", x.checked(), 1);
    }

    private static void holdsWhenWhole(int count, int at) {
        ReleaseLeaves x = new ReleaseLeaves();
        x.close();
        closeWith(x, count, 3);
        byte[] whole = checkOf(1, count, at, 3);
        Drive.feed(x, Arrays.copyOf(whole, whole.length - 1));
        is("a byte is missing", x.checked(), 0);
        x.check(whole[whole.length - 1] & 255);
        is("leaf " + at + " of " + count, x.checked(), 1);
        is("it stays", x.checked(), 1);
        x.check(0);
        is("a byte too many", x.checked(), 0);
    }

    private static void promise8CheckedRefuses() {
        under("promise 8");
        byte[] whole = checkOf(0, 2, 0, 4);
        for (int at = 0; at < whole.length; at++) {
            refusesEachBit(whole, at);
        }
        for (int length = 0; length < whole.length; length++) {
            refuses("only " + length + " bytes", Arrays.copyOf(whole, length));
        }
        int side = whole.length - 33;
        byte[] third = whole.clone();
        third[side] = 2;
        is("the step's side", whole[side], 1);
        refuses("a side that is neither 0 nor 1", third);
        byte[] tail = Arrays.copyOfRange(whole, 1, whole.length);
        refuses("the other release", joined(bytes(1), tail));
        refuses("release 2", joined(bytes(2), tail));
        refuses("release 10", joined(bytes(10), tail));
        refuses("release 255", joined(bytes(255), tail));
        refuses("65 bytes", joined(bytes(0, 0, 3, 65), new byte[65], bytes(0)));
        refuses("255 bytes", joined(bytes(0, 0, 3, 255), new byte[255], bytes(0)));
        refuses("255 steps", joined(bytes(0, 0, 3, 0, 255), new byte[295]));
        refuses("eight steps", joined(bytes(0, 0, 3, 0, 8), new byte[8 * 33]));
        refuses("just 300 bytes", joined(bytes(0, 0, 3, 64), new byte[64], bytes(7), new byte[7 * 33]));
    }

    private static ReleaseLeaves withTwoReleases() {
        ReleaseLeaves x = new ReleaseLeaves();
        closeWith(x, 2, 4);
        closeWith(x, 2, 5);
        return x;
    }

    private static void refusesEachBit(byte[] whole, int at) {
        ReleaseLeaves x = withTwoReleases();
        Drive.feed(x, whole);
        for (int mask = 1; mask < 256; mask *= 2) {
            x.poke(at, mask);
            is("another bit at " + at, x.checked(), 0);
            x.poke(at, mask);
        }
        is("unharmed", x.checked(), 1);
    }

    private static void refuses(String what, byte[] claim) {
        ReleaseLeaves x = withTwoReleases();
        Drive.feed(x, claim);
        is(what, x.checked(), 0);
    }

    private static void promise9Approve() {
        under("promise 9");
        ReleaseLeaves x = new ReleaseLeaves();
        x.close();
        x.close();
        is("one person", x.approve(0, 0, 0), 0);
        is("the same in another role", x.approve(0, 0, 3), 0);
        is("another one in a like role", x.approve(0, 15, 3), 0);
        is("a third in an unlike role", x.approve(0, 7, 0), 1);
        is("the third in a like role", x.approve(0, 7, 3), 0);
        is("the first in an unlike role", x.approve(0, 0, 2), 1);
        is("again", x.approve(0, 0, 2), 1);
        is("the other release has its own", x.approve(1, 1, 1), 0);
        is("roles 0 and 1", x.approve(1, 2, 0), 1);
        x.withdraw(1);
        is("a withdrawn one", x.approve(1, 2, 1), 0);
        fails("person below", ARGUMENT, () -> x.approve(0, -1, 0));
        fails("person above", ARGUMENT, () -> x.approve(0, 16, 0));
        fails("role below", ARGUMENT, () -> x.approve(0, 0, -1));
        fails("role above", ARGUMENT, () -> x.approve(0, 0, 4));
        fails("no release", INDEX, () -> x.approve(2, 0, 0));
        fails("no release", INDEX, () -> x.approve(-1, 0, 0));
        fails("no release, no person", INDEX, () -> x.approve(2, 16, 0));
        fails("no release, no role", INDEX, () -> x.approve(-1, 0, 4));
    }

    private static void promise10Withdraw() {
        under("promise 10");
        ReleaseLeaves x = new ReleaseLeaves();
        closeWith(x, 3, 1);
        x.close();
        x.close();
        is("one", x.withdraw(2), 1);
        is("already", x.withdraw(2), NONE);
        is("two", x.withdraw(0), 2);
        is("already", x.withdraw(0), NONE);
        is("three", x.withdraw(1), 3);
        is("it stays listed", x.made(), 3);
        Drive.isRoot("it keeps its root", x, 0, rootOf(3, 1));
        fails("no release", INDEX, () -> x.withdraw(3));
        fails("no release", INDEX, () -> x.withdraw(-1));
        fails("no release", INDEX, () -> x.withdraw(Integer.MAX_VALUE));
    }

    private static void promise11Serial() {
        under("promise 11");
        ReleaseLeaves x = new ReleaseLeaves();
        x.close();
        x.close();
        is("not approved", x.serial(0), NONE);
        x.approve(0, 1, 1);
        is("approved by one", x.serial(0), NONE);
        x.approve(0, 2, 1);
        is("approved in like roles", x.serial(0), NONE);
        x.approve(0, 2, 2);
        is("the first", x.serial(0), 0);
        is("the second", x.serial(0), 1);
        is("the other one is not approved", x.serial(1), NONE);
        Drive.approveByTwo(x, 1);
        is("over all of them", x.serial(1), 2);
        x.approve(0, 2, 1);
        is("no more approved", x.serial(0), NONE);
        x.approve(0, 2, 0);
        x.withdraw(1);
        is("withdrawn", x.serial(1), NONE);
        for (int i = 3; i < 60; i++) {
            is("serial " + i, x.serial(0), i);
        }
        is("a 61st", x.serial(0), NONE);
        is("a 61st again", x.serial(0), NONE);
        fails("a 61st is not given", INDEX, () -> x.history(60, 0, 0));
        is("the 60th is", x.history(59, 0, 0), 0);
        fails("no release", INDEX, () -> x.serial(2));
        fails("no release", INDEX, () -> x.serial(-1));
    }

    private static void promise12History() {
        under("promise 12");
        ReleaseLeaves x = new ReleaseLeaves();
        x.close();
        x.close();
        x.approve(0, 3, 1);
        x.approve(1, 15, 3);
        x.approve(0, 3, 1);
        x.serial(0);
        x.approve(0, 0, 2);
        x.approve(1, 14, 0);
        is("serial of release 1", x.serial(1), 0);
        is("serial of release 0", x.serial(0), 1);
        x.withdraw(0);
        x.withdraw(0);
        x.serial(0);
        x.approve(0, 4, 0);
        fails("no role", ARGUMENT, () -> x.approve(0, 4, 4));
        Drive.isEvent(x, 1, 0, 0, 3, 1);
        Drive.isEvent(x, 1, 1, 0, 3, 1);
        Drive.isEvent(x, 1, 2, 0, 0, 2);
        Drive.isEvent(x, 1, 3, 1, 1, NONE);
        Drive.isEvent(x, 1, 4, 2, NONE, NONE);
        Drive.isEvent(x, 1, 5, 0, 4, 0);
        Drive.isEvent(x, 1, 6, NONE, NONE, NONE);
        Drive.isEvent(x, 0, 0, 0, 15, 3);
        Drive.isEvent(x, 0, 1, 0, 14, 0);
        Drive.isEvent(x, 0, 2, 1, 0, NONE);
        Drive.isEvent(x, 0, 3, NONE, NONE, NONE);
        Drive.isEvent(x, 0, -1, NONE, NONE, NONE);
        Drive.isEvent(x, 0, Integer.MIN_VALUE, NONE, NONE, NONE);
        Drive.isEvent(x, 0, Integer.MAX_VALUE, NONE, NONE, NONE);
        fails("not given", INDEX, () -> x.history(2, 0, 0));
        fails("not given", INDEX, () -> x.history(-1, 0, 0));
        fails("another what", INDEX, () -> x.history(0, 0, 3));
        fails("another what", INDEX, () -> x.history(0, 0, -1));
        fails("another what, no event", INDEX, () -> x.history(0, -1, 3));
        fails("not given, no event", INDEX, () -> x.history(2, -1, 0));
    }

    private static void promise12HistoryIsFull() {
        under("promise 12");
        ReleaseLeaves x = new ReleaseLeaves();
        x.close();
        x.close();
        Drive.approveByTwo(x, 0);
        is("serial", x.serial(0), 0);
        for (int i = 3; i < 60; i++) {
            x.approve(1, i % 16, i % 4);
        }
        for (int i = 60; i < 99; i++) {
            x.approve(0, 5, i % 4);
        }
        is("the 100th event", x.serial(1), 1);
        is("given, but no event", x.serial(1), 2);
        is("still approved", x.approve(0, 6, 1), 1);
        is("still withdrawn", x.withdraw(0), 1);
        Drive.isEvent(x, 0, 3 + 38, 0, 5, 98 % 4);
        Drive.isEvent(x, 0, 3 + 39, NONE, NONE, NONE);
        Drive.isEvent(x, 2, 56, 0, 59 % 16, 59 % 4);
        Drive.isEvent(x, 2, 57, 1, 1, NONE);
        Drive.isEvent(x, 2, 58, NONE, NONE, NONE);
    }

    private static void promise13Digest() {
        under("promise 13");
        for (int count = 0; count <= 8; count++) {
            ReleaseLeaves x = new ReleaseLeaves();
            closeWith(x, count, 6);
            for (int at = 0; at < count; at++) {
                Drive.isDigest("leaf " + at + " of " + count, x, 0, at, leafOf(at, 6));
                int leaf = at;
                fails("i below", INDEX, () -> x.digest(0, leaf, -1));
                fails("i above", INDEX, () -> x.digest(0, leaf, 32));
            }
            int behind = count;
            fails("no leaf", INDEX, () -> x.digest(0, behind, 0));
            fails("no leaf", INDEX, () -> x.digest(0, -1, 0));
            fails("no release", INDEX, () -> x.digest(1, 0, 0));
            fails("no release", INDEX, () -> x.digest(-1, 0, 0));
        }
        for (int length = 0; length <= 64; length++) {
            ReleaseLeaves x = new ReleaseLeaves();
            x.file(65535 - length);
            byte[] content = new byte[length];
            for (int i = 0; i < length; i++) {
                content[i] = (byte) (i * 37 + length);
                x.byteOf(0, content[i] & 255);
            }
            x.close();
            Drive.isDigest(length + " bytes", x, 0, 0, leaf(65535 - length, content));
        }
    }

    private static void promise14Growth() {
        under("promise 14");
        for (int made = 0; made <= 10; made++) {
            for (int from = 0; from <= made; from++) {
                isGrowth(withReleases(made), from, made);
            }
            ReleaseLeaves x = withReleases(made);
            int above = made + 1;
            fails("to above", INDEX, () -> x.growth(0, above, 0));
            fails("both above", INDEX, () -> x.growth(above, above, 0));
        }
        ReleaseLeaves x = withReleases(8);
        isGrowth(x, 3, 3);
        x.withdraw(2);
        isGrowth(x, 2, 7);
        fails("from below", INDEX, () -> x.growth(-1, 2, 0));
        fails("from above to", INDEX, () -> x.growth(3, 2, 0));
        fails("both below", INDEX, () -> x.growth(-1, -1, 0));
        fails("i below", INDEX, () -> x.growth(0, 2, -1));
        fails("highest to", INDEX, () -> x.growth(0, Integer.MAX_VALUE, 0));
        is("far behind", x.growth(0, 2, Integer.MAX_VALUE), NONE);
    }

    // Release n has n modulo 4 leaves: ten of them and a whole growth fit into 512 calls.
    private static ReleaseLeaves withReleases(int made) {
        ReleaseLeaves x = new ReleaseLeaves();
        for (int n = 0; n < made; n++) {
            closeWith(x, n % 4, n);
        }
        return x;
    }

    private static byte[] listOf(int count) {
        return count == 0 ? sha() : sha(listOf(count - 1), rootOf((count - 1) % 4, count - 1));
    }

    private static void promise15Poke() {
        under("promise 15");
        ReleaseLeaves x = new ReleaseLeaves();
        x.file(1);
        x.byteOf(0, 0xa5);
        x.close();
        Drive.feed(x, bytes(0, 0, 1, 1, 0, 0));
        is("two bits", x.poke(4, 0xa0), true);
        is("not yet", x.checked(), 0);
        is("the lowest 8 bits", x.poke(4, 0xffffff05), true);
        is("as the file", x.checked(), 1);
        is("no bit", x.poke(4, 0), false);
        is("no bit of the lowest 8", x.poke(4, 256), false);
        is("no bit of the lowest 8", x.poke(4, 0xffffff00), false);
        is("still as the file", x.checked(), 1);
        is("all bits", x.poke(4, -1), true);
        is("not as the file", x.checked(), 0);
        is("all bits back", x.poke(4, 255), true);
        is("as the file again", x.checked(), 1);
        is("the first place", x.poke(0, 128), true);
        is("the last place", x.poke(5, 1), true);
        fails("behind", INDEX, () -> x.poke(6, 1));
        fails("behind, no bit", INDEX, () -> x.poke(6, 0));
        fails("ahead", INDEX, () -> x.poke(-1, 1));
        fails("highest", INDEX, () -> x.poke(Integer.MAX_VALUE, 1));
        x.clearCheck();
        fails("none", INDEX, () -> x.poke(0, 1));
    }

    private static void promise16Changed() {
        under("promise 16");
        ReleaseLeaves x = new ReleaseLeaves();
        Drive.file(x, 9, 1, 2, 3);
        Drive.file(x, 4);
        Drive.file(x, 6, 1);
        x.close();
        Drive.file(x, 9, 1, 2, 3);
        Drive.file(x, 6, 1, 0);
        Drive.file(x, 4);
        Drive.file(x, 5, 1);
        x.close();
        Drive.file(x, 9, 1, 2, 4);
        Drive.file(x, 6, 1);
        x.close();
        x.close();
        Drive.file(x, 9, 1, 2, 4);
        x.close();
        is("none ahead", x.changed(0, 0), 2);
        is("none ahead", x.changed(0, 2), 2);
        is("the same, empty", x.changed(1, 0), 0);
        is("a new name", x.changed(1, 1), 2);
        is("a byte more", x.changed(1, 2), 1);
        is("the same", x.changed(1, 3), 0);
        is("a byte less", x.changed(2, 0), 1);
        is("another byte", x.changed(2, 1), 1);
        is("an empty one ahead", x.changed(4, 0), 2);
        fails("no leaf", INDEX, () -> x.changed(0, 3));
        fails("no leaf", INDEX, () -> x.changed(1, -1));
        fails("no leaf", INDEX, () -> x.changed(3, 0));
        fails("no release", INDEX, () -> x.changed(5, 0));
        fails("no release", INDEX, () -> x.changed(-1, 0));
        x.withdraw(0);
        is("a withdrawn one ahead", x.changed(1, 3), 0);
    }

    private static void promise17Made() {
        under("promise 17");
        ReleaseLeaves x = new ReleaseLeaves();
        for (int i = 0; i < 10; i++) {
            is("made", x.made(), i);
            x.file(i);
            is("an open one does not count", x.made(), i);
            x.close();
        }
        is("ten", x.made(), 10);
        x.close();
        is("no more", x.made(), 10);
    }

    private static void promise18ClearCheck() {
        under("promise 18");
        ReleaseLeaves x = new ReleaseLeaves();
        x.clearCheck();
        Drive.file(x, 258, 9);
        x.close();
        for (int i = 0; i < 300; i++) {
            x.check(1);
        }
        x.clearCheck();
        is("nothing holds", x.checked(), 0);
        fails("no bytes", INDEX, () -> x.poke(0, 1));
        Drive.feed(x, bytes(0, 1, 2, 1, 9, 0));
        is("it begins anew", x.checked(), 1);
        fails("only what came since", INDEX, () -> x.poke(6, 1));
        x.clearCheck();
        is("gone again", x.checked(), 0);
    }

    // Files come by falling names, so that closing has to sort them.
    private static void closeWith(ReleaseLeaves x, int count, int salt) {
        for (int at = count - 1; at >= 0; at--) {
            int file = x.file(nameOf(at));
            for (byte b : contentOf(at, salt)) {
                x.byteOf(file, b & 255);
            }
        }
        x.close();
    }

    private static int nameOf(int at) {
        return 3 + at * 250;
    }

    private static byte[] contentOf(int at, int salt) {
        byte[] content = new byte[(at + salt) % 4];
        for (int i = 0; i < content.length; i++) {
            content[i] = (byte) (salt * 16 + at);
        }
        return content;
    }

    private static byte[] leafOf(int at, int salt) {
        return leaf(nameOf(at), contentOf(at, salt));
    }

    private static byte[][] leavesOf(int count, int salt) {
        byte[][] row = new byte[count][];
        for (int at = 0; at < count; at++) {
            row[at] = leafOf(at, salt);
        }
        return row;
    }

    private static byte[] rootOf(int count, int salt) {
        return rootOver(leavesOf(count, salt));
    }

    private static byte[] proofOf(int count, int at, int salt) {
        return proofIn(leavesOf(count, salt), at);
    }

    private static byte[] checkOf(int release, int count, int at, int salt) {
        byte[] content = contentOf(at, salt);
        int name = nameOf(at);
        return joined(bytes(release, name / 256, name % 256, content.length), content, proofOf(count, at, salt));
    }

    private static void isGrowth(ReleaseLeaves x, int from, int to) {
        byte[] due = listOf(from);
        for (int n = from; n < to; n++) {
            due = joined(due, rootOf(n % 4, n));
        }
        due = joined(due, listOf(to));
        String what = "from " + from + " to " + to;
        for (int i = 0; i < due.length; i++) {
            is(what + " byte " + i, x.growth(from, to, i), due[i] & 255);
        }
        is(what + " behind", x.growth(from, to, due.length), NONE);
    }
}

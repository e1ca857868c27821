import static support.Answers.INDEX;
import static support.Answers.fails;
import static support.Answers.is;
import static support.Measure.bytes;
import static support.Measure.joined;
import static support.Measure.leaf;
import static support.Measure.pair;
import static support.Measure.proofIn;

import java.util.Arrays;
import support.Cases;
import support.Says;

/** The boundary cases of the CHECK: check, checked, poke, clearCheck. */
public final class CheckBoundariesTest {
    private static final int LOWEST = Integer.MIN_VALUE;
    private static final int HIGHEST = Integer.MAX_VALUE;
    private static final int[] WRONG_BYTES = {-1, 256, -256, 511, LOWEST, HIGHEST};

    public static void main(String[] args) {
        Cases.run(CheckBoundariesTest.class, 7, 8, 15, 18);
    }

    // Promise 7: check

    @Says(promise = 7, words = "One more byte of the CHECK: true")
    private static void theLowestAndTheHighestByteAreTaken() {
        ReleaseLeaves x = new ReleaseLeaves();
        Drive.file(x, 65280, 0, 255);
        x.close();
        for (int b : new int[] {0, 255, 0, 2, 0, 255, 0}) {
            is("byte " + b, x.check(b), true);
        }
        is("they are kept as they are", x.checked(), 1);
    }

    @Says(promise = 7, words = "false, when it is no byte")
    private static void whatIsNoByteIsRefused() {
        ReleaseLeaves x = new ReleaseLeaves();
        for (int b : WRONG_BYTES) {
            is("byte " + b, x.check(b), false);
        }
        fails("none was kept", INDEX, () -> x.poke(0, 1));
    }

    @Says(promise = 7, words = "false, when it is no byte")
    private static void whatIsNoByteLeavesTheOthersAlone() {
        ReleaseLeaves x = Drive.closedWith(258);
        for (int b : new int[] {0, 1, 2, 0, 0}) {
            for (int wrong : WRONG_BYTES) {
                x.check(wrong);
            }
            x.check(b);
        }
        x.check(256);
        is("it holds", x.checked(), 1);
    }

    @Says(promise = 7, words = "or there are 300")
    private static void aByteBehind300IsRefused() {
        ReleaseLeaves x = new ReleaseLeaves();
        for (int i = 0; i < 300; i++) {
            is("byte " + i, x.check(i % 256), true);
        }
        is("a 301st", x.check(0), false);
        is("a 301st again", x.check(255), false);
        is("what is no byte", x.check(256), false);
        is("the 300th is there", x.poke(299, 1), true);
        fails("a 301st is not", INDEX, () -> x.poke(300, 1));
    }

    @Says(promise = 7, words = "or there are 300")
    private static void refusedBytesDoNotCountTowards300() {
        ReleaseLeaves x = new ReleaseLeaves();
        for (int i = 0; i < 100; i++) {
            x.check(-1);
        }
        for (int i = 0; i < 300; i++) {
            is("byte " + i, x.check(1), true);
        }
        is("a 301st", x.check(1), false);
    }

    // Promise 8: checked

    @Says(promise = 8, words = "1 when the CHECK HOLDS, else 0.")
    private static void theEmptyCheckDoesNotHold() {
        is("without releases", new ReleaseLeaves().checked(), 0);
        is("with an empty release", Drive.closedWith().checked(), 0);
        is("with a leaf", Drive.closedWith(0).checked(), 0);
    }

    @Says(promise = 8, words = "It HOLDS, when it is just such")
    private static void eachPartOfItDoesNotHold() {
        byte[] whole = claimOf(2, 5);
        ReleaseLeaves x = fiveLeaves();
        for (int length = 0; length < whole.length; length++) {
            is(length + " bytes", x.checked(), 0);
            x.check(whole[length] & 255);
        }
        is("the whole", x.checked(), 1);
    }

    @Says(promise = 8, words = "It HOLDS, when it is just such")
    private static void aByteMoreDoesNotHold() {
        for (int more : new int[] {0, 1, 255}) {
            refuses("byte " + more + " more", joined(claimOf(2, 5), bytes(more)));
            refuses("byte " + more + " ahead", joined(bytes(more), claimOf(2, 5)));
        }
    }

    @Says(promise = 8, words = "(It stays.)")
    private static void itStays() {
        ReleaseLeaves x = fiveLeaves();
        byte[] whole = claimOf(0, 5);
        Drive.feed(x, whole);
        is("once", x.checked(), 1);
        is("twice", x.checked(), 1);
        is("all of its bytes are there", x.poke(whole.length - 1, 0), false);
        fails("and no more", INDEX, () -> x.poke(whole.length, 0));
        x.close();
        is("behind another closing", x.checked(), 1);
    }

    @Says(promise = 8, words = "(It stays.)")
    private static void itStaysWhenItDoesNotHold() {
        ReleaseLeaves x = Drive.closedWith(258);
        Drive.feed(x, bytes(0, 1, 2));
        is("not yet", x.checked(), 0);
        Drive.feed(x, bytes(0, 0));
        is("with the rest", x.checked(), 1);
    }

    @Says(promise = 8, words = "there is the RELEASE")
    private static void withoutTheReleaseItDoesNotHold() {
        byte[] whole = claimOf(2, 5);
        for (int release : new int[] {1, 2, 9, 10, 11, 128, 255}) {
            byte[] other = whole.clone();
            other[0] = (byte) release;
            refuses("release " + release, other);
        }
    }

    @Says(promise = 8, words = "there is the RELEASE")
    private static void itHoldsFromTheClosingOn() {
        ReleaseLeaves x = new ReleaseLeaves();
        Drive.feed(x, bytes(0, 1, 2, 0, 0));
        is("without the file", x.checked(), 0);
        x.file(258);
        is("with the open file", x.checked(), 0);
        x.close();
        is("with the leaf", x.checked(), 1);
    }

    @Says(promise = 8, words = "there is the RELEASE")
    private static void itHoldsOfTheTenthRelease() {
        ReleaseLeaves x = Drive.withEmptyReleases(9);
        Drive.closeWith(x, 258);
        x.file(258);
        Drive.feed(x, bytes(9, 1, 2, 0, 0));
        is("the tenth", x.checked(), 1);
        x.close();
        x.poke(0, 9 ^ 10);
        is("an eleventh", x.checked(), 0);
    }

    @Says(promise = 8, words = "there is the RELEASE")
    private static void itHoldsOfAWithdrawnRelease() {
        ReleaseLeaves x = Drive.closedWith(258);
        x.withdraw(0);
        Drive.feed(x, bytes(0, 1, 2, 0, 0));
        is("it stays listed", x.checked(), 1);
    }

    @Says(promise = 8, words = "is the RELEASE's ROOT")
    private static void itIsOfItsReleaseAlone() {
        ReleaseLeaves x = Drive.closedWith(258);
        Drive.closeWith(x, 259);
        Drive.closeWith(x, 258);
        Drive.feed(x, bytes(0, 1, 2, 0, 0));
        is("its own", x.checked(), 1);
        x.poke(0, 1);
        is("another one", x.checked(), 0);
        x.poke(0, 3);
        is("one with the same root", x.checked(), 1);
    }

    @Says(promise = 8, words = "(Without LEAVES the ROOT is the DIGEST of no bytes.)")
    private static void nothingHoldsOfAReleaseWithoutLeaves() {
        ReleaseLeaves x = Drive.closedWith();
        Drive.feed(x, bytes(0));
        is("the number alone", x.checked(), 0);
        Drive.feed(x, bytes(0, 0, 0));
        is("without a proof", x.checked(), 0);
        Drive.feed(x, bytes(0));
        is("the least CHECK", x.checked(), 0);
    }

    @Says(promise = 8, words = "how many bytes the file has (0 .. 64), these")
    private static void aFileWithoutBytesHolds() {
        ReleaseLeaves x = Drive.closedWith(0);
        Drive.feed(x, bytes(0, 0, 0, 0, 0));
        is("no bytes", x.checked(), 1);
    }

    @Says(promise = 8, words = "how many bytes the file has (0 .. 64), these")
    private static void aFullFileHolds() {
        ReleaseLeaves x = withFullFile();
        Drive.feed(x, joined(bytes(0, 0, 7, 64), new byte[64], bytes(0)));
        is("64 bytes", x.checked(), 1);
    }

    @Says(promise = 8, words = "how many bytes the file has (0 .. 64), these")
    private static void moreThan64BytesDoNotHold() {
        for (int length : new int[] {65, 66, 128, 255}) {
            ReleaseLeaves x = withFullFile();
            Drive.feed(x, joined(bytes(0, 0, 7, length), new byte[length], bytes(0)));
            is(length + " bytes", x.checked(), 0);
        }
    }

    @Says(promise = 8, words = "how many bytes the file has (0 .. 64), these")
    private static void oneByteLessOrAnotherDoesNotHold() {
        ReleaseLeaves x = withFullFile();
        Drive.feed(x, joined(bytes(0, 0, 7, 63), new byte[63], bytes(0)));
        is("63 bytes", x.checked(), 0);
        x.clearCheck();
        Drive.feed(x, joined(bytes(0, 0, 7, 64), new byte[63], bytes(1, 0)));
        is("another last byte", x.checked(), 0);
    }

    @Says(promise = 8, words = "and the DIGEST of such a LEAF")
    private static void noBitCanBeAnother() {
        byte[] whole = claimOf(1, 2);
        for (int at = 0; at < whole.length; at++) {
            ReleaseLeaves x = leavesWithBytes(2);
            Drive.feed(x, whole);
            for (int bit = 0; bit < 8; bit++) {
                x.poke(at, 1 << bit);
                is("bit " + bit + " of byte " + at, x.checked(), 0);
                x.poke(at, 1 << bit);
            }
            is("all bits back", x.checked(), 1);
        }
    }

    @Says(promise = 8, words = "with the STEPS one behind the other")
    private static void eachLeafOfEachCountHolds() {
        for (int count = 1; count <= 8; count++) {
            for (int at = 0; at < count; at++) {
                ReleaseLeaves x = leavesWithBytes(count);
                Drive.feed(x, claimOf(at, count));
                is("leaf " + at + " of " + count, x.checked(), 1);
            }
        }
    }

    @Says(promise = 8, words = "with the STEPS one behind the other")
    private static void stepsInAnotherOrderDoNotHold() {
        byte[] head = headOf(0);
        byte[] proof = proofIn(leafDigests(5), 0);
        byte[] first = Arrays.copyOfRange(proof, 1, 34);
        byte[] second = Arrays.copyOfRange(proof, 34, 67);
        byte[] third = Arrays.copyOfRange(proof, 67, 100);
        holds("as they are", 5, joined(head, bytes(3), first, second, third));
        refuses("first and second", joined(head, bytes(3), second, first, third));
        refuses("second and third", joined(head, bytes(3), first, third, second));
    }

    @Says(promise = 8, words = "with the STEPS one behind the other")
    private static void aStepLessOrMoreDoesNotHold() {
        byte[] head = headOf(0);
        byte[] proof = proofIn(leafDigests(5), 0);
        byte[] steps = Arrays.copyOfRange(proof, 1, 100);
        refuses("no steps", joined(head, bytes(0)));
        refuses("the last left out", joined(head, bytes(2), Arrays.copyOf(steps, 66)));
        refuses("the first left out", joined(head, bytes(2), Arrays.copyOfRange(steps, 33, 99)));
        refuses("one more", joined(head, bytes(4), steps, new byte[33]));
        refuses("the last twice", joined(head, bytes(4), steps, Arrays.copyOfRange(steps, 66, 99)));
    }

    @Says(promise = 8, words = "a byte that tells how many STEPS")
    private static void aWrongCountOfStepsDoesNotHold() {
        byte[] whole = claimOf(0, 5);
        int countAt = whole.length - 100;
        is("how many there are", whole[countAt], 3);
        for (int count : new int[] {0, 1, 2, 4, 7, 8, 9, 128, 255}) {
            byte[] other = whole.clone();
            other[countAt] = (byte) count;
            refuses(count + " steps told, 3 there", other);
        }
    }

    @Says(promise = 8, words = "a byte, 0 when the other one comes ahead of it, else 1")
    private static void theOtherSideDoesNotHold() {
        byte[] whole = claimOf(4, 5);
        int sideAt = whole.length - 33;
        is("the other one is ahead", whole[sideAt], 0);
        whole[sideAt] = 1;
        refuses("told to be behind", whole);
        byte[] first = claimOf(0, 5);
        first[first.length - 33] = 0;
        refuses("told to be ahead", first);
    }

    @Says(promise = 8, words = "a byte, 0 when the other one comes ahead of it, else 1")
    private static void aSideIs0Or1() {
        int[] leavesWithThreeSteps = {0, 1, 2, 3};
        for (int at : leavesWithThreeSteps) {
            byte[] whole = claimOf(at, 5);
            for (int step = 1; step <= 3; step++) {
                for (int side : new int[] {2, 3, 128, 254, 255}) {
                    byte[] other = whole.clone();
                    other[whole.length - 33 * step] = (byte) side;
                    refuses("leaf " + at + ", step " + step + " from the end, side " + side, other);
                }
            }
        }
    }

    @Says(promise = 8, words = "(the DIGEST of 1, the one that comes ahead, the other)")
    private static void anyStepsThatLeadToTheRootHold() {
        byte[][] l = leafDigests(3);
        holds("leaf 0 by hand", 3, joined(headOf(0), bytes(2, 1), l[1], bytes(1), l[2]));
        holds("leaf 1 by hand", 3, joined(headOf(1), bytes(2, 0), l[0], bytes(1), l[2]));
        holds("leaf 2 by hand", 3, joined(headOf(2), bytes(1, 0), pair(l[0], l[1])));
    }

    @Says(promise = 8, words = "or there are 300")
    private static void aCheckOfJust300BytesIsReadWhole() {
        ReleaseLeaves x = withFullFile();
        byte[] whole = joined(bytes(0, 0, 7, 64), new byte[64], bytes(7), new byte[7 * 33]);
        is("its length", whole.length, 300);
        Drive.feed(x, whole);
        is("seven steps", x.checked(), 0);
        x.check(0);
        is("a byte was refused", x.checked(), 0);
        x.poke(68, 7);
        is("no steps, but bytes behind", x.checked(), 0);
    }

    @Says(promise = 8, words = "It HOLDS, when it is just such")
    private static void lengthsThatPointBehindTheCheckDoNotHold() {
        refuses("a file behind the end", bytes(0, 0, 0, 64));
        refuses("a file that ends with the CHECK", bytes(0, 0, 0, 1, 9));
        refuses("255 bytes told, 300 there", joined(bytes(0, 0, 0, 255), new byte[296]));
        refuses("255 steps told, none there", bytes(0, 0, 0, 0, 255));
        refuses("255 steps told, 300 bytes there", joined(bytes(0, 0, 0, 0, 255), new byte[295]));
        refuses("eight steps do not fit", joined(bytes(0, 0, 0, 64), new byte[64], bytes(8), new byte[231]));
    }

    // Promise 15: poke

    @Says(promise = 15, words = "A byte of the CHECK becomes what it is, exclusive or mask")
    private static void pokeTurnsBits() {
        ReleaseLeaves x = withPokedByte(0x5a, 0xff);
        is("the turned bits", x.poke(4, 0xa5), true);
        is("as the file", x.checked(), 1);
        is("back again", x.poke(4, 0xa5), true);
        is("not as the file", x.checked(), 0);
    }

    @Says(promise = 15, words = "(its lowest 8 bits)")
    private static void pokeUsesTheLowest8Bits() {
        for (int upper : new int[] {0, 256, 0x7fffff00, LOWEST, -256}) {
            ReleaseLeaves x = withPokedByte(0x0f, 0x0e);
            is("upper bits " + upper, x.poke(4, upper | 1), true);
            is("as the file", x.checked(), 1);
        }
    }

    @Says(promise = 15, words = "whether it is another one")
    private static void pokeTellsWhetherItIsAnother() {
        ReleaseLeaves x = withPokedByte(9, 9);
        for (int mask : new int[] {0, 256, -256, LOWEST}) {
            is("mask " + mask, x.poke(4, mask), false);
            is("it is the same", x.checked(), 1);
        }
        for (int mask : new int[] {1, 128, 255, 257, -1, HIGHEST}) {
            is("mask " + mask, x.poke(4, mask), true);
            is("it is another", x.checked(), 0);
            x.poke(4, mask);
        }
    }

    @Says(promise = 15, words = "A byte of the CHECK becomes what it is, exclusive or mask")
    private static void pokedBytesStayBytes() {
        ReleaseLeaves x = withPokedByte(255, 0);
        x.poke(4, -1);
        is("all bits are set", x.checked(), 1);
        x.poke(4, 0x1ff);
        x.poke(4, 0xff);
        is("set again", x.checked(), 1);
    }

    @Says(promise = 15, words = "IndexOutOfBoundsException, when there is none such.")
    private static void pokeOfNoByteIsRefused() {
        ReleaseLeaves x = withPokedByte(9, 9);
        for (int at : new int[] {-1, 6, 7, 299, 300, LOWEST, HIGHEST}) {
            fails("byte " + at, INDEX, () -> x.poke(at, 1));
            fails("byte " + at + ", no bit", INDEX, () -> x.poke(at, 0));
        }
        is("nothing was changed", x.checked(), 1);
    }

    @Says(promise = 15, words = "IndexOutOfBoundsException, when there is none such.")
    private static void pokeOfTheEmptyCheckIsRefused() {
        ReleaseLeaves x = new ReleaseLeaves();
        fails("byte 0", INDEX, () -> x.poke(0, 1));
        x.check(1);
        is("byte 0 of one", x.poke(0, 1), true);
        fails("byte 1 of one", INDEX, () -> x.poke(1, 1));
    }

    @Says(promise = 15, words = "A byte of the CHECK becomes what it is, exclusive or mask")
    private static void pokeOfTheFirstAndTheLastByte() {
        ReleaseLeaves x = withPokedByte(9, 9);
        is("the first", x.poke(0, 1), true);
        is("another release", x.checked(), 0);
        x.poke(0, 1);
        is("the last", x.poke(5, 1), true);
        is("another count of steps", x.checked(), 0);
        x.poke(5, 1);
        is("both back", x.checked(), 1);
    }

    @Says(promise = 15, words = "IndexOutOfBoundsException, when there is none such.")
    private static void pokeOfAFullCheck() {
        ReleaseLeaves x = new ReleaseLeaves();
        Drive.feed(x, new byte[300]);
        is("the first", x.poke(0, 255), true);
        is("the last", x.poke(299, 255), true);
        fails("behind it", INDEX, () -> x.poke(300, 255));
    }

    // Promise 18: clearCheck

    @Says(promise = 18, words = "The CHECK has no bytes.")
    private static void clearingTheEmptyCheck() {
        ReleaseLeaves x = Drive.closedWith(258);
        x.clearCheck();
        fails("no byte", INDEX, () -> x.poke(0, 1));
        Drive.feed(x, bytes(0, 1, 2, 0, 0));
        is("it takes bytes", x.checked(), 1);
    }

    @Says(promise = 18, words = "The CHECK has no bytes.")
    private static void clearingACheckThatHolds() {
        ReleaseLeaves x = withPokedByte(9, 9);
        x.clearCheck();
        is("it does not hold", x.checked(), 0);
        fails("no byte", INDEX, () -> x.poke(0, 0));
        x.clearCheck();
        Drive.feed(x, bytes(0, 1, 2, 1, 9, 0));
        is("it holds anew", x.checked(), 1);
        fails("and has no more", INDEX, () -> x.poke(6, 0));
    }

    @Says(promise = 18, words = "The CHECK has no bytes.")
    private static void clearingAFullCheckGivesRoom() {
        ReleaseLeaves x = new ReleaseLeaves();
        Drive.feed(x, new byte[300]);
        x.clearCheck();
        fails("no byte", INDEX, () -> x.poke(0, 1));
        for (int i = 0; i < 200; i++) {
            is("byte " + i, x.check(255), true);
        }
        fails("no old byte behind them", INDEX, () -> x.poke(200, 1));
    }

    @Says(promise = 18, words = "The CHECK has no bytes.")
    private static void clearingTheCheckLeavesTheReleases() {
        ReleaseLeaves x = Drive.closedWith(258);
        x.file(3);
        x.check(1);
        x.clearCheck();
        is("made", x.made(), 1);
        is("the open file", x.byteOf(0, 1), true);
        Drive.isRoot("the root", x, 0, leaf(258, bytes()));
    }

    // Leaf "at" has a byte for each leaf ahead of it.
    private static byte[] contentOf(int at) {
        byte[] content = new byte[at];
        Arrays.fill(content, (byte) (200 + at));
        return content;
    }

    private static int nameOf(int at) {
        return 250 + 3 * at;
    }

    private static byte[][] leafDigests(int count) {
        byte[][] row = new byte[count][];
        for (int at = 0; at < count; at++) {
            row[at] = leaf(nameOf(at), contentOf(at));
        }
        return row;
    }

    private static ReleaseLeaves leavesWithBytes(int count) {
        ReleaseLeaves x = new ReleaseLeaves();
        for (int at = count - 1; at >= 0; at--) {
            int file = x.file(nameOf(at));
            for (byte b : contentOf(at)) {
                x.byteOf(file, b & 255);
            }
        }
        x.close();
        return x;
    }

    private static ReleaseLeaves fiveLeaves() {
        return leavesWithBytes(5);
    }

    private static byte[] headOf(int at) {
        return joined(bytes(0, nameOf(at) / 256, nameOf(at) % 256, at), contentOf(at));
    }

    private static byte[] claimOf(int at, int count) {
        return joined(headOf(at), proofIn(leafDigests(count), at));
    }

    private static void holds(String what, int count, byte[] claim) {
        ReleaseLeaves x = leavesWithBytes(count);
        Drive.feed(x, claim);
        is(what, x.checked(), 1);
    }

    // Release 0 has the five leaves; release 1 is there, too, but has another root.
    private static void refuses(String what, byte[] claim) {
        ReleaseLeaves x = fiveLeaves();
        Drive.closeWith(x, 1);
        Drive.feed(x, claim);
        is(what, x.checked(), 0);
    }

    private static ReleaseLeaves withFullFile() {
        ReleaseLeaves x = new ReleaseLeaves();
        x.file(7);
        for (int i = 0; i < 64; i++) {
            x.byteOf(0, 0);
        }
        x.close();
        return x;
    }

    // A file of one byte and a CHECK of it; byte 4 of the CHECK is the file's byte.
    private static ReleaseLeaves withPokedByte(int inFile, int inCheck) {
        ReleaseLeaves x = new ReleaseLeaves();
        Drive.file(x, 258, inFile);
        x.close();
        Drive.feed(x, bytes(0, 1, 2, 1, inCheck, 0));
        return x;
    }
}

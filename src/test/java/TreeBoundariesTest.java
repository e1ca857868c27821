import static support.Answers.INDEX;
import static support.Answers.fails;
import static support.Answers.is;
import static support.Measure.bytes;
import static support.Measure.joined;
import static support.Measure.leaf;
import static support.Measure.pair;
import static support.Measure.proofIn;
import static support.Measure.rootOver;
import static support.Measure.sha;

import java.util.Arrays;
import support.Cases;
import support.Says;

/** The boundary cases of closed releases: root, proof, digest, growth, changed. */
public final class TreeBoundariesTest {
    private static final int NONE = ReleaseLeaves.NONE;
    private static final int LOWEST = Integer.MIN_VALUE;
    private static final int HIGHEST = Integer.MAX_VALUE;
    private static final int[] NAMES = {2, 255, 256, 1000, 32767, 32768, 40000, 65535};

    public static void main(String[] args) {
        Cases.run(TreeBoundariesTest.class, 5, 6, 13, 14, 16);
    }

    // Promise 5: root

    @Says(promise = 5, words = "(Without LEAVES the ROOT is the DIGEST of no bytes.)")
    private static void rootWithoutLeaves() {
        Drive.isRoot("no leaves", Drive.closedWith(), 0, sha());
    }

    @Says(promise = 5, words = "until there is one: the ROOT")
    private static void rootOfOneLeafIsItsDigest() {
        Drive.isRoot("one leaf", Drive.closedWith(7), 0, leaf(7, bytes()));
    }

    @Says(promise = 5, words = "the next one has for each two of them, from the first on, the DIGEST of the byte 1, the one, the other")
    private static void rootOfTwoLeaves() {
        Drive.isRoot("two leaves", Drive.closedWith(9, 7), 0, pair(leaf(7, bytes()), leaf(9, bytes())));
    }

    @Says(promise = 5, words = "a last one without another goes up as it is")
    private static void rootOfThreeLeaves() {
        byte[][] l = Drive.leaves(1, 2, 3);
        Drive.isRoot("three leaves", Drive.closedWith(3, 1, 2), 0, pair(pair(l[0], l[1]), l[2]));
    }

    @Says(promise = 5, words = "a last one without another goes up as it is")
    private static void rootOfFiveLeavesLetsOneGoUpTwice() {
        byte[][] l = Drive.leaves(1, 2, 3, 4, 5);
        byte[] four = pair(pair(l[0], l[1]), pair(l[2], l[3]));
        Drive.isRoot("five leaves", Drive.closedWith(5, 4, 3, 2, 1), 0, pair(four, l[4]));
    }

    @Says(promise = 5, words = "a last one without another goes up as it is")
    private static void rootOfSixLeavesLetsAPairGoUp() {
        byte[][] l = Drive.leaves(1, 2, 3, 4, 5, 6);
        byte[] four = pair(pair(l[0], l[1]), pair(l[2], l[3]));
        Drive.isRoot("six leaves", Drive.closedWith(2, 1, 4, 3, 6, 5), 0, pair(four, pair(l[4], l[5])));
    }

    @Says(promise = 5, words = "a last one without another goes up as it is")
    private static void rootOfSevenLeaves() {
        byte[][] l = Drive.leaves(1, 2, 3, 4, 5, 6, 7);
        byte[] four = pair(pair(l[0], l[1]), pair(l[2], l[3]));
        byte[] three = pair(pair(l[4], l[5]), l[6]);
        Drive.isRoot("seven leaves", Drive.closedWith(7, 1, 6, 2, 5, 3, 4), 0, pair(four, three));
    }

    @Says(promise = 5, words = "at most 8")
    private static void rootOfEightLeaves() {
        byte[][] l = Drive.leaves(1, 2, 3, 4, 5, 6, 7, 8);
        byte[] ahead = pair(pair(l[0], l[1]), pair(l[2], l[3]));
        byte[] behind = pair(pair(l[4], l[5]), pair(l[6], l[7]));
        Drive.isRoot("eight leaves", Drive.closedWith(8, 7, 6, 5, 4, 3, 2, 1), 0, pair(ahead, behind));
    }

    @Says(promise = 5, words = "IndexOutOfBoundsException, when there is no such RELEASE, or i is not 0 .. 31.")
    private static void rootOfNoReleaseIsRefused() {
        ReleaseLeaves x = Drive.closedWith(1);
        x.close();
        x.file(2);
        for (int release : new int[] {-1, 2, 9, 10, 11, LOWEST, HIGHEST}) {
            fails("release " + release, INDEX, () -> x.root(release, 0));
        }
        Drive.isRoot("the first that is", x, 0, leaf(1, bytes()));
        Drive.isRoot("the last that is", x, 1, sha());
    }

    @Says(promise = 5, words = "Closed RELEASES are numbered from 0, at most 10.")
    private static void rootOfTheTenthRelease() {
        ReleaseLeaves x = Drive.withEmptyReleases(9);
        Drive.closeWith(x, 1);
        Drive.isRoot("the tenth", x, 9, leaf(1, bytes()));
        fails("an eleventh", INDEX, () -> x.root(10, 0));
    }

    @Says(promise = 5, words = "or i is not 0 .. 31.")
    private static void rootHasBytes0To31() {
        ReleaseLeaves x = Drive.closedWith(1);
        for (int i : new int[] {-1, 32, 33, LOWEST, HIGHEST}) {
            fails("i " + i, INDEX, () -> x.root(0, i));
        }
        is("i 0", x.root(0, 0), leaf(1, bytes())[0] & 255);
        is("i 31", x.root(0, 31), leaf(1, bytes())[31] & 255);
    }

    // Promise 6: proof

    @Says(promise = 6, words = "a byte that tells how many STEPS")
    private static void proofOfALoneLeafHasNoSteps() {
        ReleaseLeaves x = Drive.closedWith(7);
        is("how many steps", x.proof(0, 0, 0), 0);
        is("behind it", x.proof(0, 0, 1), NONE);
        is("behind it", x.proof(0, 0, 33), NONE);
    }

    @Says(promise = 6, words = "a byte, 0 when the other one comes ahead of it, else 1, and the other one's 32 bytes")
    private static void proofOfTwoLeavesTellsTheSide() {
        ReleaseLeaves x = Drive.closedWith(7, 9);
        isProof("the first", x, 0, joined(bytes(1, 1), leaf(9, bytes())));
        isProof("the second", x, 1, joined(bytes(1, 0), leaf(7, bytes())));
    }

    @Says(promise = 6, words = "for each row, from the first on, in which it, or what came of it, has another one: a STEP")
    private static void proofLeavesOutARowWithoutAnother() {
        byte[][] l = Drive.leaves(1, 2, 3);
        isProof("the third of three", Drive.closedWith(1, 2, 3), 2, joined(bytes(1, 0), pair(l[0], l[1])));
    }

    @Says(promise = 6, words = "for each row, from the first on, in which it, or what came of it, has another one: a STEP")
    private static void proofLeavesOutTwoRowsWithoutAnother() {
        byte[][] l = Drive.leaves(1, 2, 3, 4, 5);
        byte[] four = pair(pair(l[0], l[1]), pair(l[2], l[3]));
        isProof("the fifth of five", Drive.closedWith(1, 2, 3, 4, 5), 4, joined(bytes(1, 0), four));
    }

    @Says(promise = 6, words = "for each row, from the first on, in which it, or what came of it, has another one: a STEP")
    private static void proofLeavesOutARowInTheMiddle() {
        byte[][] l = Drive.leaves(1, 2, 3, 4, 5, 6);
        byte[] four = pair(pair(l[0], l[1]), pair(l[2], l[3]));
        ReleaseLeaves x = Drive.closedWith(1, 2, 3, 4, 5, 6);
        isProof("the fifth of six", x, 4, joined(bytes(2, 1), l[5], bytes(0), four));
        isProof("the sixth of six", x, 5, joined(bytes(2, 0), l[4], bytes(0), four));
    }

    @Says(promise = 6, words = "for each row, from the first on, in which it, or what came of it, has another one: a STEP")
    private static void proofOfEachLeafOfEachCount() {
        for (int count = 1; count <= 8; count++) {
            int[] names = Arrays.copyOf(NAMES, count);
            for (int at = 0; at < count; at++) {
                ReleaseLeaves x = Drive.closedWith(names);
                isProof("leaf " + at + " of " + count, x, at, proofIn(Drive.leaves(names), at));
            }
        }
    }

    @Says(promise = 6, words = "NONE behind it")
    private static void proofHasNothingBehindIt() {
        ReleaseLeaves x = Drive.closedWith(NAMES);
        is("the last byte", x.proof(0, 0, 99), proofIn(Drive.leaves(NAMES), 0)[99] & 255);
        for (int i : new int[] {100, 101, 132, 133, 1000, HIGHEST}) {
            is("i " + i, x.proof(0, 0, i), NONE);
        }
    }

    @Says(promise = 6, words = "or i is below 0.")
    private static void proofHasNothingAheadOfIt() {
        ReleaseLeaves x = Drive.closedWith(1, 2);
        for (int i : new int[] {-1, -33, LOWEST}) {
            fails("i " + i, INDEX, () -> x.proof(0, 0, i));
        }
    }

    @Says(promise = 6, words = "IndexOutOfBoundsException, when there is no such RELEASE, or LEAF, or i is below 0.")
    private static void proofOfNoReleaseIsRefused() {
        ReleaseLeaves x = Drive.closedWith(1, 2);
        x.file(1);
        for (int release : new int[] {-1, 1, 10, LOWEST, HIGHEST}) {
            fails("release " + release, INDEX, () -> x.proof(release, 0, 0));
            fails("release " + release + ", far behind", INDEX, () -> x.proof(release, 0, HIGHEST));
        }
    }

    @Says(promise = 6, words = "IndexOutOfBoundsException, when there is no such RELEASE, or LEAF, or i is below 0.")
    private static void proofOfNoLeafIsRefused() {
        ReleaseLeaves x = Drive.closedWith(1, 2, 3);
        for (int leaf : new int[] {-1, 3, 7, 8, LOWEST, HIGHEST}) {
            fails("leaf " + leaf, INDEX, () -> x.proof(0, leaf, 0));
            fails("leaf " + leaf + ", far behind", INDEX, () -> x.proof(0, leaf, HIGHEST));
        }
        is("the last that is", x.proof(0, 2, 0), 1);
    }

    @Says(promise = 6, words = "IndexOutOfBoundsException, when there is no such RELEASE, or LEAF, or i is below 0.")
    private static void proofInAReleaseWithoutLeavesIsRefused() {
        ReleaseLeaves x = Drive.closedWith();
        fails("leaf 0", INDEX, () -> x.proof(0, 0, 0));
        Drive.closeWith(x, 1);
        fails("leaf 0 of the empty one still", INDEX, () -> x.proof(0, 0, 0));
    }

    // Promise 13: digest

    @Says(promise = 13, words = "Behind its closing a RELEASE's FILES, its LEAVES, are numbered from 0 by rising NAMES.")
    private static void leavesStandByRisingNames() {
        ReleaseLeaves x = new ReleaseLeaves();
        int[] coming = {40000, 256, 65535, 2, 32768, 255, 32767, 1000};
        for (int name : coming) {
            Drive.file(x, name, name % 251);
        }
        x.close();
        for (int at = 0; at < NAMES.length; at++) {
            Drive.isDigest("leaf " + at, x, 0, at, leaf(NAMES[at], bytes(NAMES[at] % 251)));
        }
    }

    @Says(promise = 13, words = "A LEAF's DIGEST is that of the bytes 0, NAME / 256, NAME modulo 256, its bytes.")
    private static void digestHoldsBothBytesOfTheName() {
        for (int name : new int[] {0, 1, 255, 256, 257, 32768, 65280, 65535}) {
            Drive.isDigest("name " + name, Drive.closedWith(name), 0, 0, leaf(name, bytes()));
        }
    }

    // Behind 52 and 60 bytes of content the padding needs another block.
    @Says(promise = 13, words = "A LEAF's DIGEST is that of the bytes 0, NAME / 256, NAME modulo 256, its bytes.")
    private static void digestOfEachLength() {
        for (int length = 0; length <= 64; length++) {
            ReleaseLeaves x = new ReleaseLeaves();
            x.file(258);
            byte[] content = new byte[length];
            for (int i = 0; i < length; i++) {
                content[i] = (byte) (255 - 3 * i);
                x.byteOf(0, content[i] & 255);
            }
            x.close();
            Drive.isDigest(length + " bytes", x, 0, 0, leaf(258, content));
        }
    }

    @Says(promise = 13, words = "or i is not 0 .. 31.")
    private static void digestHasBytes0To31() {
        ReleaseLeaves x = Drive.closedWith(1, 2);
        for (int leaf = 0; leaf < 2; leaf++) {
            int at = leaf;
            for (int i : new int[] {-1, 32, 33, LOWEST, HIGHEST}) {
                fails("leaf " + at + ", i " + i, INDEX, () -> x.digest(0, at, i));
            }
            is("i 0", x.digest(0, at, 0), leaf(at + 1, bytes())[0] & 255);
            is("i 31", x.digest(0, at, 31), leaf(at + 1, bytes())[31] & 255);
        }
    }

    @Says(promise = 13, words = "IndexOutOfBoundsException, when there is no such RELEASE, or LEAF, or i is not 0 .. 31.")
    private static void digestOfNoReleaseIsRefused() {
        ReleaseLeaves x = Drive.closedWith(1);
        x.file(1);
        for (int release : new int[] {-1, 1, 9, 10, LOWEST, HIGHEST}) {
            fails("release " + release, INDEX, () -> x.digest(release, 0, 0));
        }
    }

    @Says(promise = 13, words = "IndexOutOfBoundsException, when there is no such RELEASE, or LEAF, or i is not 0 .. 31.")
    private static void digestOfNoLeafIsRefused() {
        ReleaseLeaves x = Drive.closedWith(1, 2, 3);
        for (int leaf : new int[] {-1, 3, 7, 8, LOWEST, HIGHEST}) {
            fails("leaf " + leaf, INDEX, () -> x.digest(0, leaf, 0));
        }
        Drive.isDigest("the last that is", x, 0, 2, leaf(3, bytes()));
    }

    @Says(promise = 13, words = "IndexOutOfBoundsException, when there is no such RELEASE, or LEAF, or i is not 0 .. 31.")
    private static void digestInAReleaseWithoutLeavesIsRefused() {
        ReleaseLeaves x = Drive.closedWith();
        fails("leaf 0", INDEX, () -> x.digest(0, 0, 0));
    }

    @Says(promise = 13, words = "numbered from 0 as they come, at most 8")
    private static void digestOfTheEighthLeaf() {
        ReleaseLeaves x = Drive.closedWith(NAMES);
        Drive.isDigest("the eighth", x, 0, 7, leaf(65535, bytes()));
        fails("a ninth", INDEX, () -> x.digest(0, 8, 0));
    }

    // Promise 14: growth

    @Says(promise = 14, words = "LIST of 0 is the DIGEST of no bytes")
    private static void growthFromNoneToNone() {
        isGrowth(new ReleaseLeaves(), 0, 0);
        isGrowth(Drive.closedWith(1), 0, 0);
    }

    @Says(promise = 14, words = "LIST of n + 1 that of LIST of n and the ROOT of RELEASE n")
    private static void growthByOne() {
        ReleaseLeaves x = Drive.closedWith(1, 2);
        isGrowth(x, 0, 1, rootOver(Drive.leaves(1, 2)));
    }

    @Says(promise = 14, words = "Byte i of how the list grew from so many RELEASES to so many")
    private static void growthByNothing() {
        byte[][] roots = rootsOf(5);
        for (int many = 0; many <= 5; many++) {
            isGrowth(withGrownList(5), many, many, roots);
        }
    }

    @Says(promise = 14, words = "LIST of from (32 bytes), the ROOTS of RELEASES from .. to - 1, LIST of to")
    private static void growthBetweenAnyTwo() {
        byte[][] roots = rootsOf(10);
        for (int from = 0; from <= 10; from++) {
            for (int to = from; to <= 10; to++) {
                isGrowth(withGrownList(10), from, to, roots);
            }
        }
    }

    @Says(promise = 14, words = "NONE behind it")
    private static void growthHasNothingBehindIt() {
        ReleaseLeaves x = withGrownList(3);
        byte[] due = growthOf(1, 3, rootsOf(3));
        is("the last byte", x.growth(1, 3, 127), due[127] & 255);
        for (int i : new int[] {128, 129, 159, 160, 1000, HIGHEST}) {
            is("i " + i, x.growth(1, 3, i), NONE);
        }
        is("behind a growth by nothing", x.growth(0, 0, 64), NONE);
        is("behind a growth by all", x.growth(0, 3, 160), NONE);
    }

    @Says(promise = 14, words = "or i below 0.")
    private static void growthHasNothingAheadOfIt() {
        ReleaseLeaves x = withGrownList(3);
        for (int i : new int[] {-1, -32, LOWEST}) {
            fails("i " + i, INDEX, () -> x.growth(1, 3, i));
            fails("i " + i + " of a growth by nothing", INDEX, () -> x.growth(0, 0, i));
        }
    }

    @Says(promise = 14, words = "IndexOutOfBoundsException, when from is below 0")
    private static void growthFromBelow0IsRefused() {
        ReleaseLeaves x = withGrownList(3);
        fails("from -1", INDEX, () -> x.growth(-1, 2, 0));
        fails("from -1 to -1", INDEX, () -> x.growth(-1, -1, 0));
        fails("from the lowest", INDEX, () -> x.growth(LOWEST, 3, 0));
        fails("from the lowest, far behind", INDEX, () -> x.growth(LOWEST, 3, HIGHEST));
    }

    @Says(promise = 14, words = "or above to")
    private static void growthBackwardsIsRefused() {
        ReleaseLeaves x = withGrownList(3);
        fails("from 1 to 0", INDEX, () -> x.growth(1, 0, 0));
        fails("from 3 to 2", INDEX, () -> x.growth(3, 2, 0));
        fails("from the highest to 0", INDEX, () -> x.growth(HIGHEST, 0, 0));
        fails("from 0 to -1", INDEX, () -> x.growth(0, -1, 0));
        fails("from 0 to the lowest", INDEX, () -> x.growth(0, LOWEST, 0));
        fails("from 3 to 2, far behind", INDEX, () -> x.growth(3, 2, HIGHEST));
    }

    @Says(promise = 14, words = "to above how many there are")
    private static void growthToMoreThanThereAreIsRefused() {
        ReleaseLeaves x = withGrownList(3);
        x.file(1);
        fails("to 4", INDEX, () -> x.growth(0, 4, 0));
        fails("from 4 to 4", INDEX, () -> x.growth(4, 4, 0));
        fails("to the highest", INDEX, () -> x.growth(0, HIGHEST, 0));
        fails("to 4, far behind", INDEX, () -> x.growth(0, 4, HIGHEST));
        fails("to 1 of none", INDEX, () -> new ReleaseLeaves().growth(0, 1, 0));
        x.close();
        isGrowth(x, 3, 4, rootsOf(3)[0], rootsOf(3)[1], rootsOf(3)[2], leaf(1, bytes()));
    }

    @Says(promise = 14, words = "to above how many there are")
    private static void growthEndsWithTheTenth() {
        ReleaseLeaves x = withGrownList(10);
        x.close();
        fails("to 11", INDEX, () -> x.growth(0, 11, 0));
        fails("from 11 to 11", INDEX, () -> x.growth(11, 11, 0));
        isGrowth(x, 9, 10, rootsOf(10));
    }

    @Says(promise = 14, words = "Byte i of how the list grew from so many RELEASES to so many")
    private static void growthKeepsWithdrawnOnes() {
        ReleaseLeaves x = withGrownList(4);
        x.withdraw(1);
        x.withdraw(3);
        isGrowth(x, 0, 4, rootsOf(4));
    }

    // Promise 16: changed

    @Says(promise = 16, words = "(or there is none ahead)")
    private static void changedInTheFirstRelease() {
        ReleaseLeaves x = Drive.closedWith(1, 2);
        is("the first leaf", x.changed(0, 0), 2);
        is("the last leaf", x.changed(0, 1), 2);
    }

    @Says(promise = 16, words = "0, it has that NAME with the same bytes")
    private static void unchangedLeaf() {
        is("empty ones", changedFrom(bytes(), bytes()), 0);
        is("one byte", changedFrom(bytes(7), bytes(7)), 0);
        is("64 bytes", changedFrom(rising(64), rising(64)), 0);
    }

    @Says(promise = 16, words = "1, with others")
    private static void changedLeaf() {
        is("the first byte", changedFrom(bytes(7, 8), bytes(6, 8)), 1);
        is("the last byte", changedFrom(bytes(7, 8), bytes(7, 9)), 1);
        is("in another order", changedFrom(bytes(7, 8), bytes(8, 7)), 1);
        byte[] last = rising(64);
        last[63]++;
        is("the last byte of 64", changedFrom(rising(64), last), 1);
    }

    @Says(promise = 16, words = "1, with others")
    private static void longerOrShorterLeaf() {
        is("a byte more", changedFrom(bytes(7), bytes(7, 0)), 1);
        is("a byte less", changedFrom(bytes(7, 0), bytes(7)), 1);
        is("a byte more than none", changedFrom(bytes(), bytes(0)), 1);
        is("no byte left", changedFrom(bytes(0), bytes()), 1);
        is("the 64th more", changedFrom(rising(63), rising(64)), 1);
    }

    @Says(promise = 16, words = "2, not at all")
    private static void newLeaf() {
        ReleaseLeaves x = Drive.closedWith(255, 257);
        Drive.closeWith(x, 0, 256, 65535);
        is("ahead of all", x.changed(1, 0), 2);
        is("in between", x.changed(1, 1), 2);
        is("behind all", x.changed(1, 2), 2);
    }

    @Says(promise = 16, words = "2, not at all")
    private static void newLeafBehindAReleaseWithoutLeaves() {
        ReleaseLeaves x = Drive.closedWith(0);
        x.close();
        Drive.closeWith(x, 0);
        is("behind an empty one", x.changed(2, 0), 2);
    }

    @Says(promise = 16, words = "A RELEASE's LEAF against the one ahead of that RELEASE")
    private static void onlyTheReleaseJustAheadCounts() {
        ReleaseLeaves x = new ReleaseLeaves();
        Drive.file(x, 5, 1);
        x.close();
        Drive.file(x, 5, 2);
        x.close();
        Drive.file(x, 5, 1);
        x.close();
        Drive.file(x, 5, 1);
        x.close();
        Drive.file(x, 5, 3);
        is("1 behind 2", x.changed(2, 0), 1);
        is("1 behind 1, the open one has 3", x.changed(3, 0), 0);
    }

    @Says(promise = 16, words = "A RELEASE's LEAF against the one ahead of that RELEASE")
    private static void namesCountNotNumbers() {
        ReleaseLeaves x = new ReleaseLeaves();
        Drive.file(x, 5, 1);
        Drive.file(x, 6, 2);
        x.close();
        Drive.file(x, 6, 2);
        Drive.file(x, 5, 1);
        Drive.file(x, 4, 1);
        x.close();
        is("name 4", x.changed(1, 0), 2);
        is("name 5", x.changed(1, 1), 0);
        is("name 6", x.changed(1, 2), 0);
    }

    @Says(promise = 16, words = "A RELEASE's LEAF against the one ahead of that RELEASE")
    private static void aWithdrawnReleaseAheadCounts() {
        ReleaseLeaves x = Drive.closedWith(5);
        Drive.closeWith(x, 5);
        x.withdraw(0);
        is("the same", x.changed(1, 0), 0);
    }

    @Says(promise = 16, words = "A RELEASE's LEAF against the one ahead of that RELEASE")
    private static void theTenthHasTheNinthAhead() {
        ReleaseLeaves x = Drive.withEmptyReleases(8);
        Drive.closeWith(x, 5);
        Drive.closeWith(x, 5, 6);
        is("the same", x.changed(9, 0), 0);
        is("a new one", x.changed(9, 1), 2);
    }

    @Says(promise = 16, words = "IndexOutOfBoundsException, when there is no such RELEASE, or LEAF.")
    private static void changedOfNoReleaseIsRefused() {
        ReleaseLeaves x = Drive.closedWith(5);
        x.file(5);
        for (int release : new int[] {-1, 1, 10, LOWEST, HIGHEST}) {
            fails("release " + release, INDEX, () -> x.changed(release, 0));
        }
    }

    @Says(promise = 16, words = "IndexOutOfBoundsException, when there is no such RELEASE, or LEAF.")
    private static void changedOfNoLeafIsRefused() {
        ReleaseLeaves x = Drive.closedWith(5, 6, 7);
        Drive.closeWith(x, 5, 6);
        x.close();
        for (int leaf : new int[] {-1, 2, 7, 8, LOWEST, HIGHEST}) {
            fails("leaf " + leaf, INDEX, () -> x.changed(1, leaf));
        }
        fails("of the first release", INDEX, () -> x.changed(0, 3));
        fails("of an empty one", INDEX, () -> x.changed(2, 0));
    }

    private static void isProof(String what, ReleaseLeaves x, int leaf, byte[] due) {
        for (int i = 0; i < due.length; i++) {
            is(what + ", byte " + i, x.proof(0, leaf, i), due[i] & 255);
        }
        is(what + ", behind", x.proof(0, leaf, due.length), NONE);
    }

    // Release n has n modulo 3 leaves, so that some roots are alike and some are of no leaves.
    private static ReleaseLeaves withGrownList(int count) {
        ReleaseLeaves x = new ReleaseLeaves();
        for (int n = 0; n < count; n++) {
            Drive.closeWith(x, namesOf(n));
        }
        return x;
    }

    private static int[] namesOf(int n) {
        int[] names = new int[n % 3];
        for (int i = 0; i < names.length; i++) {
            names[i] = n / 6 * 100 + i;
        }
        return names;
    }

    private static byte[][] rootsOf(int count) {
        byte[][] roots = new byte[count][];
        for (int n = 0; n < count; n++) {
            roots[n] = rootOver(Drive.leaves(namesOf(n)));
        }
        return roots;
    }

    private static byte[] listOf(int count, byte[][] roots) {
        byte[] list = sha();
        for (int n = 0; n < count; n++) {
            list = sha(list, roots[n]);
        }
        return list;
    }

    private static byte[] growthOf(int from, int to, byte[][] roots) {
        byte[] grown = listOf(from, roots);
        for (int n = from; n < to; n++) {
            grown = joined(grown, roots[n]);
        }
        return joined(grown, listOf(to, roots));
    }

    private static void isGrowth(ReleaseLeaves x, int from, int to, byte[]... roots) {
        byte[] due = growthOf(from, to, roots);
        String what = "from " + from + " to " + to;
        for (int i = 0; i < due.length; i++) {
            is(what + ", byte " + i, x.growth(from, to, i), due[i] & 255);
        }
        is(what + ", behind", x.growth(from, to, due.length), NONE);
    }

    private static int changedFrom(byte[] before, byte[] behind) {
        ReleaseLeaves x = new ReleaseLeaves();
        for (byte[] content : new byte[][] {before, behind}) {
            x.file(5);
            for (byte b : content) {
                x.byteOf(0, b & 255);
            }
            x.close();
        }
        return x.changed(1, 0);
    }

    private static byte[] rising(int length) {
        byte[] content = new byte[length];
        for (int i = 0; i < length; i++) {
            content[i] = (byte) (i + 190);
        }
        return content;
    }
}

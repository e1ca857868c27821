import static support.Answers.ARGUMENT;
import static support.Answers.INDEX;
import static support.Answers.fails;
import static support.Answers.is;
import static support.Measure.bytes;
import static support.Measure.leaf;
import static support.Measure.sha;

import java.util.Arrays;
import support.Cases;
import support.Says;

/** The boundary cases of the open release: a new object, file, byteOf, close, made. */
public final class FileBoundariesTest {
    private static final int NONE = ReleaseLeaves.NONE;
    private static final int LOWEST = Integer.MIN_VALUE;
    private static final int HIGHEST = Integer.MAX_VALUE;
    private static final byte[] NO_BYTES = {};

    public static void main(String[] args) {
        Cases.run(FileBoundariesTest.class, 1, 2, 3, 4, 17);
    }

    // Promise 1: a new object

    @Says(promise = 1, words = "An open RELEASE without FILES")
    private static void newObjectHasNoFile() {
        ReleaseLeaves x = new ReleaseLeaves();
        fails("byteOf", INDEX, () -> x.byteOf(0, 0));
        is("the first file's number", x.file(0), 0);
    }

    @Says(promise = 1, words = "An open RELEASE without FILES")
    private static void newObjectClosesAsAnEmptyRelease() {
        ReleaseLeaves x = new ReleaseLeaves();
        is("its number", x.close(), 0);
        Drive.isRoot("no leaves", x, 0, sha());
        fails("no leaf", INDEX, () -> x.digest(0, 0, 0));
    }

    @Says(promise = 1, words = "none closed")
    private static void newObjectHasNoRelease() {
        ReleaseLeaves x = new ReleaseLeaves();
        is("made", x.made(), 0);
        fails("root", INDEX, () -> x.root(0, 0));
        fails("proof", INDEX, () -> x.proof(0, 0, 0));
        fails("digest", INDEX, () -> x.digest(0, 0, 0));
        fails("changed", INDEX, () -> x.changed(0, 0));
        fails("approve", INDEX, () -> x.approve(0, 0, 0));
        fails("withdraw", INDEX, () -> x.withdraw(0));
        fails("serial", INDEX, () -> x.serial(0));
        fails("growth", INDEX, () -> x.growth(0, 1, 0));
    }

    @Says(promise = 1, words = "none closed")
    private static void newObjectHasNoSerialAndNoCheck() {
        ReleaseLeaves x = new ReleaseLeaves();
        fails("history", INDEX, () -> x.history(0, 0, 0));
        fails("poke", INDEX, () -> x.poke(0, 1));
        is("checked", x.checked(), 0);
    }

    @Says(promise = 1, words = "An open RELEASE without FILES, none closed.")
    private static void newObjectSharesNothingWithAnother() {
        ReleaseLeaves used = Drive.closedWith(1, 2);
        used.file(3);
        used.check(0);
        Drive.approveByTwo(used, 0);
        used.serial(0);
        ReleaseLeaves x = new ReleaseLeaves();
        is("made", x.made(), 0);
        is("the first file's number", x.file(3), 0);
        fails("poke", INDEX, () -> x.poke(0, 1));
        fails("history", INDEX, () -> x.history(0, 0, 0));
        is("the first release's number", x.close(), 0);
        is("approve", x.approve(0, 3, 2), 0);
        is("the other one's open file", used.byteOf(0, 1), true);
    }

    @Says(promise = 1, words = "An object is used for at most 512 calls after it has been made")
    private static void theCallNumber512StillAnswers() {
        ReleaseLeaves x = Drive.withEmptyReleases(10);
        x.file(5);
        for (int call = 12; call <= 511; call++) {
            is("call " + call, x.made(), 10);
        }
        is("call 512", x.byteOf(0, 1), true);
    }

    // Promise 2: file

    @Says(promise = 2, words = "numbered from 0 as they come, at most 8")
    private static void filesAreNumberedAsTheyCome() {
        ReleaseLeaves x = new ReleaseLeaves();
        for (int i = 0; i < 8; i++) {
            is("file " + i, x.file(900 - 100 * i), i);
        }
    }

    @Says(promise = 2, words = "NONE, when there are 8")
    private static void aNinthFileIsRefused() {
        ReleaseLeaves x = withEightFiles();
        is("a ninth", x.file(8), NONE);
        is("a ninth again", x.file(9), NONE);
        fails("no ninth is open", INDEX, () -> x.byteOf(8, 0));
        x.close();
        fails("no ninth leaf", INDEX, () -> x.digest(0, 8, 0));
        Drive.isDigest("the eighth", x, 0, 7, leaf(7, NO_BYTES));
        is("its name was not taken", x.file(8), 0);
    }

    @Says(promise = 2, words = "NONE, when there are 8")
    private static void eachReleaseHasRoomForEight() {
        ReleaseLeaves x = withEightFiles();
        x.close();
        for (int i = 0; i < 8; i++) {
            is("file " + i + " of the next release", x.file(i), i);
        }
        is("a ninth of it", x.file(8), NONE);
    }

    @Says(promise = 2, words = "or one has this NAME")
    private static void aNameIsTakenOnce() {
        ReleaseLeaves x = new ReleaseLeaves();
        Drive.file(x, 40, 1);
        Drive.file(x, 41, 2);
        is("the first one's name", x.file(40), NONE);
        is("the last one's name", x.file(41), NONE);
        is("a free name", x.file(42), 2);
        x.close();
        Drive.isDigest("the first one keeps its bytes", x, 0, 0, leaf(40, bytes(1)));
        Drive.isDigest("the last one keeps its bytes", x, 0, 1, leaf(41, bytes(2)));
    }

    @Says(promise = 2, words = "or one has this NAME")
    private static void aClosedFilesNameIsFree() {
        ReleaseLeaves x = Drive.closedWith(40, 41);
        is("the name", x.file(41), 0);
        is("the other name", x.file(40), 1);
        is("now it is taken", x.file(41), NONE);
    }

    @Says(promise = 2, words = "each with a NAME (0 .. 65,535) of its own")
    private static void theLowestAndTheHighestNameAreNames() {
        ReleaseLeaves x = new ReleaseLeaves();
        is("the highest", x.file(65535), 0);
        is("the lowest", x.file(0), 1);
        is("the highest again", x.file(65535), NONE);
        is("the lowest again", x.file(0), NONE);
        x.close();
        Drive.isDigest("the lowest", x, 0, 0, leaf(0, NO_BYTES));
        Drive.isDigest("the highest", x, 0, 1, leaf(65535, NO_BYTES));
    }

    @Says(promise = 2, words = "IllegalArgumentException, when it is no NAME.")
    private static void whatIsNoNameIsRefused() {
        ReleaseLeaves x = new ReleaseLeaves();
        for (int name : new int[] {-1, 65536, -65535, 65536 + 5, LOWEST, HIGHEST}) {
            fails("name " + name, ARGUMENT, () -> x.file(name));
        }
        fails("none was added", INDEX, () -> x.byteOf(0, 0));
        is("the first file's number", x.file(5), 0);
    }

    @Says(promise = 2, words = "IllegalArgumentException, when it is no NAME.")
    private static void whatIsNoNameIsRefusedWhenThereAreEight() {
        ReleaseLeaves x = withEightFiles();
        fails("above", ARGUMENT, () -> x.file(65536));
        fails("below", ARGUMENT, () -> x.file(-1));
    }

    // Promise 3: byteOf

    @Says(promise = 3, words = "One more byte (0 .. 255) of an open FILE: true")
    private static void theLowestAndTheHighestByteAreBytes() {
        ReleaseLeaves x = new ReleaseLeaves();
        x.file(5);
        is("the lowest", x.byteOf(0, 0), true);
        is("the highest", x.byteOf(0, 255), true);
        is("in between", x.byteOf(0, 128), true);
        x.close();
        Drive.isDigest("in their order", x, 0, 0, leaf(5, bytes(0, 255, 128)));
    }

    @Says(promise = 3, words = "false when it has 64")
    private static void aByteBehind64IsRefused() {
        ReleaseLeaves x = new ReleaseLeaves();
        x.file(5);
        for (int i = 0; i < 64; i++) {
            is("byte " + i, x.byteOf(0, 7), true);
        }
        is("a 65th", x.byteOf(0, 8), false);
        is("a 65th again", x.byteOf(0, 7), false);
        x.close();
        Drive.isDigest("it has its 64", x, 0, 0, leaf(5, filled(64, 7)));
    }

    @Says(promise = 3, words = "false when it has 64")
    private static void eachFileHasRoomFor64() {
        ReleaseLeaves x = new ReleaseLeaves();
        x.file(5);
        x.file(6);
        for (int i = 0; i < 64; i++) {
            x.byteOf(0, 7);
            is("byte " + i + " of the other", x.byteOf(1, 9), true);
        }
        is("a 65th of the other", x.byteOf(1, 9), false);
        x.close();
        Drive.isDigest("the one", x, 0, 0, leaf(5, filled(64, 7)));
        Drive.isDigest("the other", x, 0, 1, leaf(6, filled(64, 9)));
    }

    @Says(promise = 3, words = "false when it has 64")
    private static void aFullFileLeavesNothingToTheNextRelease() {
        ReleaseLeaves x = new ReleaseLeaves();
        x.file(5);
        for (int i = 0; i < 64; i++) {
            x.byteOf(0, 7);
        }
        x.close();
        x.file(5);
        is("a byte of the new one", x.byteOf(0, 1), true);
        x.close();
        Drive.isDigest("it has this alone", x, 1, 0, leaf(5, bytes(1)));
    }

    @Says(promise = 3, words = "IndexOutOfBoundsException, when there is no such FILE")
    private static void aFileThatIsNotThereIsRefused() {
        ReleaseLeaves x = new ReleaseLeaves();
        x.file(5);
        x.file(6);
        for (int file : new int[] {-1, 2, 7, 8, 9, LOWEST, HIGHEST}) {
            fails("file " + file, INDEX, () -> x.byteOf(file, 0));
        }
        is("the last one that is", x.byteOf(1, 1), true);
        x.close();
        Drive.isDigest("nothing was added", x, 0, 0, leaf(5, NO_BYTES));
        Drive.isDigest("but the one byte", x, 0, 1, leaf(6, bytes(1)));
    }

    @Says(promise = 3, words = "One more byte (0 .. 255) of an open FILE: true")
    private static void aClosedFileTakesNoByte() {
        ReleaseLeaves x = Drive.closedWith(5, 6);
        fails("none is open", INDEX, () -> x.byteOf(0, 1));
        x.file(6);
        is("the open one", x.byteOf(0, 1), true);
        fails("the closed one", INDEX, () -> x.byteOf(1, 1));
        Drive.isDigest("the closed one's bytes", x, 0, 0, leaf(5, NO_BYTES));
        Drive.isDigest("the namesake's bytes", x, 0, 1, leaf(6, NO_BYTES));
    }

    @Says(promise = 3, words = "IllegalArgumentException, when it is no byte.")
    private static void whatIsNoByteIsRefused() {
        ReleaseLeaves x = new ReleaseLeaves();
        x.file(5);
        for (int b : new int[] {-1, 256, -128, 256 + 7, LOWEST, HIGHEST}) {
            fails("byte " + b, ARGUMENT, () -> x.byteOf(0, b));
        }
        x.close();
        Drive.isDigest("nothing was added", x, 0, 0, leaf(5, NO_BYTES));
    }

    @Says(promise = 3, words = "IllegalArgumentException, when it is no byte.")
    private static void whatIsNoByteIsRefusedOfAFullFile() {
        ReleaseLeaves x = new ReleaseLeaves();
        x.file(5);
        for (int i = 0; i < 64; i++) {
            x.byteOf(0, 7);
        }
        fails("above", ARGUMENT, () -> x.byteOf(0, 256));
        fails("below", ARGUMENT, () -> x.byteOf(0, -1));
    }

    @Says(promise = 3, words = "IndexOutOfBoundsException, when there is no such FILE; IllegalArgumentException")
    private static void noSuchFileComesAheadOfNoByte() {
        ReleaseLeaves x = new ReleaseLeaves();
        fails("without files", INDEX, () -> x.byteOf(0, 256));
        x.file(5);
        fails("behind", INDEX, () -> x.byteOf(1, -1));
        fails("ahead", INDEX, () -> x.byteOf(-1, 256));
    }

    // Promise 4: close

    @Says(promise = 4, words = "Closed RELEASES are numbered from 0, at most 10.")
    private static void tenReleasesAreNumberedFrom0() {
        ReleaseLeaves x = new ReleaseLeaves();
        for (int i = 0; i < 10; i++) {
            is("release " + i, x.close(), i);
        }
    }

    @Says(promise = 4, words = "an empty one is open")
    private static void behindAClosingTheOpenOneIsEmpty() {
        ReleaseLeaves x = new ReleaseLeaves();
        Drive.file(x, 5, 1, 2);
        x.close();
        fails("no file", INDEX, () -> x.byteOf(0, 1));
        x.close();
        Drive.isRoot("no leaves", x, 1, sha());
        fails("no leaf", INDEX, () -> x.digest(1, 0, 0));
        Drive.isRoot("the first one", x, 0, leaf(5, bytes(1, 2)));
    }

    @Says(promise = 4, words = "an empty one is open")
    private static void behindTheTenthAnEmptyOneIsOpen() {
        ReleaseLeaves x = Drive.withEmptyReleases(9);
        x.file(5);
        is("the tenth", x.close(), 9);
        fails("no file", INDEX, () -> x.byteOf(0, 1));
        is("the name is free", x.file(5), 0);
    }

    @Says(promise = 4, words = "NONE, when 10 are closed (it stays open)")
    private static void anEleventhStaysOpen() {
        ReleaseLeaves x = Drive.withEmptyReleases(10);
        Drive.file(x, 5, 1);
        is("an eleventh", x.close(), NONE);
        is("an eleventh again", x.close(), NONE);
        is("its file takes bytes", x.byteOf(0, 2), true);
        is("its name is taken", x.file(5), NONE);
        is("it takes more files", x.file(6), 1);
    }

    @Says(promise = 4, words = "NONE, when 10 are closed (it stays open)")
    private static void anEleventhHasTheSameLimits() {
        ReleaseLeaves x = Drive.withEmptyReleases(10);
        for (int i = 0; i < 8; i++) {
            is("file " + i, x.file(8 - i), i);
        }
        x.close();
        is("a ninth", x.file(9), NONE);
        for (int i = 0; i < 64; i++) {
            is("byte " + i, x.byteOf(7, 255), true);
        }
        is("a 65th", x.byteOf(7, 255), false);
        fails("no byte", ARGUMENT, () -> x.byteOf(0, 256));
        fails("no name", ARGUMENT, () -> x.file(65536));
    }

    @Says(promise = 4, words = "NONE, when 10 are closed (it stays open)")
    private static void anEleventhIsNotListed() {
        ReleaseLeaves x = Drive.withEmptyReleases(10);
        x.file(5);
        int before = x.growth(0, 10, 32 * 11);
        x.close();
        is("made", x.made(), 10);
        fails("root", INDEX, () -> x.root(10, 0));
        fails("digest", INDEX, () -> x.digest(10, 0, 0));
        fails("proof", INDEX, () -> x.proof(10, 0, 0));
        fails("changed", INDEX, () -> x.changed(10, 0));
        fails("approve", INDEX, () -> x.approve(10, 0, 0));
        fails("withdraw", INDEX, () -> x.withdraw(10));
        fails("serial", INDEX, () -> x.serial(10));
        fails("growth", INDEX, () -> x.growth(0, 11, 0));
        is("the list is the same", x.growth(0, 10, 32 * 11), before);
        Drive.isRoot("the tenth is the same", x, 9, sha());
    }

    @Says(promise = 4, words = "an empty one is open")
    private static void aReleaseBeginsWithoutApprovals() {
        ReleaseLeaves x = Drive.withEmptyReleases(1);
        Drive.approveByTwo(x, 0);
        x.withdraw(0);
        x.close();
        is("not approved", x.serial(1), NONE);
        is("by one alone", x.approve(1, 3, 3), 0);
        is("not withdrawn", x.withdraw(1), 2);
    }

    // Promise 17: made

    @Says(promise = 17, words = "How many RELEASES are closed.")
    private static void madeBeginsWith0() {
        ReleaseLeaves x = new ReleaseLeaves();
        is("none", x.made(), 0);
        x.file(5);
        is("an open one is not closed", x.made(), 0);
    }

    @Says(promise = 17, words = "How many RELEASES are closed.")
    private static void madeEndsWith10() {
        ReleaseLeaves x = Drive.withEmptyReleases(9);
        is("nine", x.made(), 9);
        x.close();
        is("ten", x.made(), 10);
        x.close();
        is("an eleventh was refused", x.made(), 10);
    }

    @Says(promise = 17, words = "How many RELEASES are closed.")
    private static void madeCountsWithdrawnOnes() {
        ReleaseLeaves x = Drive.withEmptyReleases(2);
        x.withdraw(0);
        x.withdraw(1);
        is("made", x.made(), 2);
    }

    private static ReleaseLeaves withEightFiles() {
        ReleaseLeaves x = new ReleaseLeaves();
        for (int name = 0; name < 8; name++) {
            x.file(name);
        }
        return x;
    }

    private static byte[] filled(int length, int value) {
        byte[] content = new byte[length];
        Arrays.fill(content, (byte) value);
        return content;
    }
}

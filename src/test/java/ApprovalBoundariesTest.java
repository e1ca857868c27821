import static support.Answers.ARGUMENT;
import static support.Answers.INDEX;
import static support.Answers.fails;
import static support.Answers.is;
import static support.Measure.bytes;
import static support.Measure.leaf;

import support.Cases;
import support.Says;

/** The boundary cases of what happens to closed releases: approve, withdraw, serial, history. */
public final class ApprovalBoundariesTest {
    private static final int NONE = ReleaseLeaves.NONE;
    private static final int LOWEST = Integer.MIN_VALUE;
    private static final int HIGHEST = Integer.MAX_VALUE;
    private static final int APPROVAL = 0;
    private static final int SERIAL = 1;
    private static final int WITHDRAWAL = 2;

    public static void main(String[] args) {
        Cases.run(ApprovalBoundariesTest.class, 9, 10, 11, 12);
    }

    // Promise 9: approve

    @Says(promise = 9, words = "1 when of those that approved two are there with unlike roles, else 0")
    private static void onePersonIsNotTwo() {
        for (int role = 0; role < 4; role++) {
            ReleaseLeaves x = Drive.withEmptyReleases(1);
            is("role " + role, x.approve(0, 0, role), 0);
            is("role " + role + " again", x.approve(0, 0, role), 0);
            is("another role", x.approve(0, 0, (role + 1) % 4), 0);
        }
    }

    @Says(promise = 9, words = "1 when of those that approved two are there with unlike roles, else 0")
    private static void anyTwoRolesCount() {
        for (int one = 0; one < 4; one++) {
            for (int other = 0; other < 4; other++) {
                ReleaseLeaves x = Drive.withEmptyReleases(1);
                is("the first", x.approve(0, 4, one), 0);
                is("roles " + one + " and " + other, x.approve(0, 9, other), one == other ? 0 : 1);
            }
        }
    }

    @Says(promise = 9, words = "1 when of those that approved two are there with unlike roles, else 0")
    private static void sixteenOfOneRoleAreNotEnough() {
        for (int role = 0; role < 4; role++) {
            ReleaseLeaves x = Drive.withEmptyReleases(1);
            for (int person = 0; person < 16; person++) {
                is("person " + person, x.approve(0, person, role), 0);
            }
            is("one in another role", x.approve(0, 7, 3 - role), 1);
        }
    }

    @Says(promise = 9, words = "A person (0 .. 15) approves a RELEASE in a role (0 .. 3)")
    private static void theFirstAndTheLastPersonCount() {
        ReleaseLeaves x = Drive.withEmptyReleases(2);
        is("person 15", x.approve(0, 15, 3), 0);
        is("person 0", x.approve(0, 0, 0), 1);
        is("person 0 ahead", x.approve(1, 0, 3), 0);
        is("person 15 behind", x.approve(1, 15, 0), 1);
    }

    @Says(promise = 9, words = "what they approved it in before is gone")
    private static void anEarlierRoleIsGone() {
        ReleaseLeaves x = Drive.withEmptyReleases(1);
        x.approve(0, 1, 0);
        is("unlike", x.approve(0, 2, 1), 1);
        is("now alike", x.approve(0, 2, 0), 0);
        is("not approved", x.serial(0), NONE);
        is("unlike by the other one", x.approve(0, 1, 3), 1);
        is("now alike again", x.approve(0, 1, 0), 0);
    }

    @Says(promise = 9, words = "what they approved it in before is gone")
    private static void anEarlierRoleIsGoneInThisReleaseAlone() {
        ReleaseLeaves x = Drive.withEmptyReleases(2);
        Drive.approveByTwo(x, 0);
        Drive.approveByTwo(x, 1);
        is("alike in one", x.approve(1, 2, 0), 0);
        is("unlike in the other", x.serial(0), 0);
        is("not in the one", x.serial(1), NONE);
    }

    @Says(promise = 9, words = "1 when of those that approved two are there with unlike roles, else 0")
    private static void approvingAgainTellsTheSame() {
        ReleaseLeaves x = Drive.withEmptyReleases(1);
        Drive.approveByTwo(x, 0);
        is("the first again", x.approve(0, 1, 0), 1);
        is("the second again", x.approve(0, 2, 1), 1);
        is("a third", x.approve(0, 3, 1), 1);
    }

    @Says(promise = 9, words = "A person (0 .. 15) approves a RELEASE in a role (0 .. 3)")
    private static void aWithdrawnReleaseIsApprovedToo() {
        ReleaseLeaves x = Drive.withEmptyReleases(1);
        x.withdraw(0);
        is("one", x.approve(0, 1, 0), 0);
        is("two", x.approve(0, 2, 1), 1);
    }

    @Says(promise = 9, words = "IndexOutOfBoundsException, when there is no such RELEASE")
    private static void approvingNoReleaseIsRefused() {
        ReleaseLeaves x = Drive.withEmptyReleases(2);
        x.file(1);
        for (int release : new int[] {-1, 2, 9, 10, LOWEST, HIGHEST}) {
            fails("release " + release, INDEX, () -> x.approve(release, 0, 0));
        }
        x.close();
        is("the one closed behind it begins anew", x.approve(2, 1, 1), 0);
    }

    @Says(promise = 9, words = "IllegalArgumentException, when it is no person, or role.")
    private static void noPersonIsRefused() {
        ReleaseLeaves x = Drive.withEmptyReleases(1);
        x.approve(0, 5, 0);
        for (int person : new int[] {-1, 16, 17, LOWEST, HIGHEST}) {
            fails("person " + person, ARGUMENT, () -> x.approve(0, person, 1));
        }
        is("still by one alone", x.approve(0, 5, 0), 0);
        is("no serial", x.serial(0), NONE);
    }

    @Says(promise = 9, words = "IllegalArgumentException, when it is no person, or role.")
    private static void noRoleIsRefused() {
        ReleaseLeaves x = Drive.withEmptyReleases(1);
        Drive.approveByTwo(x, 0);
        for (int role : new int[] {-1, 4, 5, LOWEST, HIGHEST}) {
            fails("role " + role, ARGUMENT, () -> x.approve(0, 2, role));
            fails("role " + role + " of a third", ARGUMENT, () -> x.approve(0, 3, role));
        }
        is("the role before is not gone", x.serial(0), 0);
        is("a third has none", x.approve(0, 2, 0), 0);
    }

    @Says(promise = 9, words = "IndexOutOfBoundsException, when there is no such RELEASE; IllegalArgumentException")
    private static void noReleaseComesAheadOfNoPersonOrRole() {
        ReleaseLeaves x = Drive.withEmptyReleases(1);
        fails("no person", INDEX, () -> x.approve(1, 16, 0));
        fails("no role", INDEX, () -> x.approve(-1, 0, 4));
        fails("neither", INDEX, () -> x.approve(1, -1, -1));
        fails("no person, no role", ARGUMENT, () -> x.approve(0, -1, -1));
    }

    // Promise 10: withdraw

    @Says(promise = 10, words = "how many are")
    private static void withdrawingCountsUpTo10() {
        ReleaseLeaves x = Drive.withEmptyReleases(10);
        for (int i = 0; i < 10; i++) {
            is("release " + (9 - i), x.withdraw(9 - i), i + 1);
        }
        for (int i = 0; i < 10; i++) {
            is("release " + i + " again", x.withdraw(i), NONE);
        }
    }

    @Says(promise = 10, words = "NONE, when it is already")
    private static void withdrawingTwiceIsRefused() {
        ReleaseLeaves x = Drive.withEmptyReleases(2);
        is("once", x.withdraw(1), 1);
        is("twice", x.withdraw(1), NONE);
        is("three times", x.withdraw(1), NONE);
        is("it was counted once", x.withdraw(0), 2);
    }

    @Says(promise = 10, words = "A RELEASE is withdrawn (it stays listed)")
    private static void aWithdrawnReleaseStaysListed() {
        ReleaseLeaves x = Drive.closedWith(5);
        Drive.closeWith(x, 5);
        x.withdraw(0);
        is("made", x.made(), 2);
        Drive.isRoot("its root", x, 0, leaf(5, bytes()));
        Drive.isDigest("its leaf", x, 0, 0, leaf(5, bytes()));
        is("its proof", x.proof(0, 0, 0), 0);
        is("its leaf is new", x.changed(0, 0), 2);
        is("the next one's leaf is the same", x.changed(1, 0), 0);
        is("the list", x.growth(0, 1, 32), leaf(5, bytes())[0] & 255);
        is("the next number", x.close(), 2);
    }

    @Says(promise = 10, words = "IndexOutOfBoundsException likewise.")
    private static void withdrawingNoReleaseIsRefused() {
        ReleaseLeaves x = Drive.withEmptyReleases(2);
        x.file(1);
        for (int release : new int[] {-1, 2, 9, 10, LOWEST, HIGHEST}) {
            fails("release " + release, INDEX, () -> x.withdraw(release));
        }
        x.close();
        is("none was withdrawn", x.withdraw(2), 1);
    }

    // Promise 11: serial

    @Says(promise = 11, words = "A new serial number of a RELEASE, from 0 on over all of them")
    private static void serialsRiseOverAllReleases() {
        ReleaseLeaves x = Drive.withEmptyReleases(10);
        for (int release = 0; release < 10; release++) {
            Drive.approveByTwo(x, release);
        }
        for (int i = 0; i < 20; i++) {
            is("serial " + i, x.serial(9 - i % 10), i);
        }
    }

    @Says(promise = 11, words = "not approved by two with unlike roles")
    private static void aReleaseThatIsNotApprovedHasNoSerial() {
        ReleaseLeaves x = Drive.withEmptyReleases(1);
        is("by none", x.serial(0), NONE);
        x.approve(0, 0, 0);
        is("by one", x.serial(0), NONE);
        x.approve(0, 15, 0);
        is("by two with like roles", x.serial(0), NONE);
        x.approve(0, 15, 3);
        is("by two with unlike roles", x.serial(0), 0);
        x.approve(0, 0, 3);
        is("no more so", x.serial(0), NONE);
        x.approve(0, 0, 2);
        is("so again, and no number was lost", x.serial(0), 1);
    }

    @Says(promise = 11, words = "NONE, when it is withdrawn")
    private static void aWithdrawnReleaseHasNoNewSerial() {
        ReleaseLeaves x = Drive.withEmptyReleases(2);
        Drive.approveByTwo(x, 0);
        Drive.approveByTwo(x, 1);
        is("ahead of it", x.serial(0), 0);
        x.withdraw(0);
        is("withdrawn", x.serial(0), NONE);
        x.approve(0, 3, 3);
        is("approved anew", x.serial(0), NONE);
        is("the other one, and no number was lost", x.serial(1), 1);
        Drive.isEvent(x, 0, 2, SERIAL, 0, NONE);
    }

    @Says(promise = 11, words = "or 60 are given")
    private static void the61stSerialIsRefused() {
        ReleaseLeaves x = Drive.withEmptyReleases(2);
        Drive.approveByTwo(x, 0);
        Drive.approveByTwo(x, 1);
        for (int i = 0; i < 60; i++) {
            is("serial " + i, x.serial(i % 2), i);
        }
        is("a 61st", x.serial(0), NONE);
        is("a 61st of the other", x.serial(1), NONE);
        is("the 60th is of release 1", x.history(59, 2, 1), 1);
        fails("a 61st is not given", INDEX, () -> x.history(60, 0, 0));
    }

    @Says(promise = 11, words = "IndexOutOfBoundsException likewise.")
    private static void aSerialOfNoReleaseIsRefused() {
        ReleaseLeaves x = Drive.withEmptyReleases(2);
        Drive.approveByTwo(x, 1);
        for (int release : new int[] {-1, 2, 9, 10, LOWEST, HIGHEST}) {
            fails("release " + release, INDEX, () -> x.serial(release));
        }
        is("no number was lost", x.serial(1), 0);
    }

    @Says(promise = 11, words = "IndexOutOfBoundsException likewise.")
    private static void aSerialOfNoReleaseIsRefusedWhen60AreGiven() {
        ReleaseLeaves x = Drive.withEmptyReleases(1);
        Drive.approveByTwo(x, 0);
        for (int i = 0; i < 60; i++) {
            x.serial(0);
        }
        fails("behind", INDEX, () -> x.serial(1));
        fails("ahead", INDEX, () -> x.serial(-1));
    }

    // Promise 12: history

    @Says(promise = 12, words = "0 an approval, 1 a serial, 2 a withdrawal (what 0), its person, its number, or NONE (1), its role, or NONE (2)")
    private static void eachKindOfEventIsTold() {
        ReleaseLeaves x = Drive.withEmptyReleases(1);
        x.approve(0, 15, 3);
        x.approve(0, 0, 0);
        x.serial(0);
        x.serial(0);
        x.withdraw(0);
        Drive.isEvent(x, 0, 0, APPROVAL, 15, 3);
        Drive.isEvent(x, 0, 1, APPROVAL, 0, 0);
        Drive.isEvent(x, 0, 2, SERIAL, 0, NONE);
        Drive.isEvent(x, 0, 3, SERIAL, 1, NONE);
        Drive.isEvent(x, 0, 4, WITHDRAWAL, NONE, NONE);
    }

    @Says(promise = 12, words = "Of the k-th EVENT of the RELEASE that has a serial number")
    private static void theSerialNamesTheRelease() {
        ReleaseLeaves x = Drive.withEmptyReleases(2);
        x.approve(0, 1, 0);
        x.approve(1, 3, 2);
        x.approve(1, 4, 3);
        x.approve(0, 2, 1);
        x.serial(1);
        x.serial(0);
        x.serial(1);
        Drive.isEvent(x, 0, 0, APPROVAL, 3, 2);
        Drive.isEvent(x, 0, 3, SERIAL, 2, NONE);
        Drive.isEvent(x, 1, 0, APPROVAL, 1, 0);
        Drive.isEvent(x, 1, 1, APPROVAL, 2, 1);
        Drive.isEvent(x, 1, 2, SERIAL, 1, NONE);
        Drive.isEvent(x, 2, 0, APPROVAL, 3, 2);
        Drive.isEvent(x, 2, 2, SERIAL, 0, NONE);
    }

    @Says(promise = 12, words = "NONE, when there are not so many")
    private static void behindTheLastEventIsNone() {
        ReleaseLeaves x = withOneSerial();
        Drive.isEvent(x, 0, 2, SERIAL, 0, NONE);
        for (int k : new int[] {3, 4, 99, 100, 101, HIGHEST}) {
            Drive.isEvent(x, 0, k, NONE, NONE, NONE);
        }
        x.approve(0, 7, 3);
        Drive.isEvent(x, 0, 3, APPROVAL, 7, 3);
        Drive.isEvent(x, 0, 4, NONE, NONE, NONE);
    }

    @Says(promise = 12, words = "NONE, when there are not so many")
    private static void eventsOfOthersAreNotBehindTheLast() {
        ReleaseLeaves x = withOneSerial();
        x.close();
        x.approve(1, 5, 2);
        x.withdraw(1);
        Drive.isEvent(x, 0, 3, NONE, NONE, NONE);
    }

    @Says(promise = 12, words = "(or k is below 0)")
    private static void aheadOfTheFirstEventIsNone() {
        ReleaseLeaves x = withOneSerial();
        for (int k : new int[] {-1, -2, -100, LOWEST}) {
            Drive.isEvent(x, 0, k, NONE, NONE, NONE);
        }
    }

    @Says(promise = 12, words = "EVENTS are those calls that did something, in order")
    private static void refusedCallsAreNoEvents() {
        ReleaseLeaves x = Drive.withEmptyReleases(1);
        x.serial(0);
        x.approve(0, 1, 0);
        fails("no role", ARGUMENT, () -> x.approve(0, 2, 4));
        fails("no person", ARGUMENT, () -> x.approve(0, 16, 1));
        x.serial(0);
        x.approve(0, 2, 1);
        fails("no release", INDEX, () -> x.serial(1));
        x.serial(0);
        x.withdraw(0);
        x.withdraw(0);
        x.serial(0);
        x.approve(0, 3, 2);
        Drive.isEvent(x, 0, 0, APPROVAL, 1, 0);
        Drive.isEvent(x, 0, 1, APPROVAL, 2, 1);
        Drive.isEvent(x, 0, 2, SERIAL, 0, NONE);
        Drive.isEvent(x, 0, 3, WITHDRAWAL, NONE, NONE);
        Drive.isEvent(x, 0, 4, APPROVAL, 3, 2);
        Drive.isEvent(x, 0, 5, NONE, NONE, NONE);
    }

    @Says(promise = 12, words = "approvals each")
    private static void eachApprovalIsAnEvent() {
        ReleaseLeaves x = Drive.withEmptyReleases(1);
        x.approve(0, 1, 0);
        x.approve(0, 1, 0);
        x.approve(0, 1, 1);
        x.approve(0, 2, 2);
        x.approve(0, 2, 2);
        x.serial(0);
        Drive.isEvent(x, 0, 0, APPROVAL, 1, 0);
        Drive.isEvent(x, 0, 1, APPROVAL, 1, 0);
        Drive.isEvent(x, 0, 2, APPROVAL, 1, 1);
        Drive.isEvent(x, 0, 3, APPROVAL, 2, 2);
        Drive.isEvent(x, 0, 4, APPROVAL, 2, 2);
        Drive.isEvent(x, 0, 5, SERIAL, 0, NONE);
    }

    @Says(promise = 12, words = "the first 100 of all RELEASES")
    private static void the101stApprovalIsNoEvent() {
        ReleaseLeaves x = withEvents(99);
        x.approve(0, 14, 3);
        is("it still approves", x.approve(0, 13, 2), 1);
        Drive.isEvent(x, 0, 99, APPROVAL, 14, 3);
        Drive.isEvent(x, 0, 100, NONE, NONE, NONE);
    }

    @Says(promise = 12, words = "the first 100 of all RELEASES")
    private static void the101stSerialIsNoEvent() {
        ReleaseLeaves x = withEvents(99);
        is("the 100th event", x.serial(0), 1);
        is("it is still given", x.serial(0), 2);
        Drive.isEvent(x, 2, 99, SERIAL, 1, NONE);
        Drive.isEvent(x, 2, 100, NONE, NONE, NONE);
    }

    @Says(promise = 12, words = "the first 100 of all RELEASES")
    private static void the100thWithdrawalIsAnEvent() {
        ReleaseLeaves x = withEvents(99);
        is("the 100th event", x.withdraw(0), 1);
        Drive.isEvent(x, 0, 99, WITHDRAWAL, NONE, NONE);
        Drive.isEvent(x, 0, 100, NONE, NONE, NONE);
    }

    @Says(promise = 12, words = "the first 100 of all RELEASES")
    private static void the101stWithdrawalIsNoEvent() {
        ReleaseLeaves x = withEvents(100);
        is("it is still withdrawn", x.withdraw(0), 1);
        is("already", x.withdraw(0), NONE);
        is("no serial any more", x.serial(0), NONE);
        Drive.isEvent(x, 0, 100, NONE, NONE, NONE);
    }

    @Says(promise = 12, words = "the first 100 of all RELEASES")
    private static void the100AreOfAllReleasesTogether() {
        ReleaseLeaves x = withEvents(50);
        x.close();
        for (int i = 50; i < 100; i++) {
            x.approve(1, i % 16, i / 16 % 4);
        }
        is("a serial of release 1", x.serial(1), 1);
        x.approve(0, 9, 3);
        Drive.isEvent(x, 0, 49, APPROVAL, 49 % 16, 49 / 16 % 4);
        Drive.isEvent(x, 0, 50, NONE, NONE, NONE);
        Drive.isEvent(x, 1, 49, APPROVAL, 99 % 16, 99 / 16 % 4);
        Drive.isEvent(x, 1, 50, NONE, NONE, NONE);
    }

    @Says(promise = 12, words = "the first 100 of all RELEASES")
    private static void aReleaseWithoutEventsHasNone() {
        ReleaseLeaves x = withEvents(100);
        x.close();
        Drive.approveByTwo(x, 1);
        is("its serial", x.serial(1), 1);
        Drive.isEvent(x, 1, 0, NONE, NONE, NONE);
        Drive.isEvent(x, 1, -1, NONE, NONE, NONE);
    }

    @Says(promise = 12, words = "the first 100 of all RELEASES")
    private static void refusedCallsTakeNoneOfThe100() {
        ReleaseLeaves x = withEvents(99);
        x.close();
        x.serial(1);
        fails("no role", ARGUMENT, () -> x.approve(0, 0, 4));
        fails("no release", INDEX, () -> x.withdraw(2));
        x.approve(0, 12, 2);
        Drive.isEvent(x, 0, 99, APPROVAL, 12, 2);
    }

    @Says(promise = 12, words = "IndexOutOfBoundsException, when it is not given")
    private static void aSerialThatIsNotGivenIsRefused() {
        ReleaseLeaves x = withOneSerial();
        for (int serial : new int[] {-1, 1, 59, 60, 61, LOWEST, HIGHEST}) {
            fails("serial " + serial, INDEX, () -> x.history(serial, 0, 0));
            fails("serial " + serial + ", no event", INDEX, () -> x.history(serial, -1, 0));
        }
        x.serial(0);
        is("once given", x.history(1, 0, 0), APPROVAL);
    }

    @Says(promise = 12, words = "IndexOutOfBoundsException, when it is not given")
    private static void withoutSerialsEachIsRefused() {
        ReleaseLeaves x = Drive.withEmptyReleases(1);
        fails("no event", INDEX, () -> x.history(0, 0, 0));
        Drive.approveByTwo(x, 0);
        fails("two events", INDEX, () -> x.history(0, 0, 0));
    }

    @Says(promise = 12, words = "or for another what.")
    private static void anotherWhatIsRefused() {
        ReleaseLeaves x = withOneSerial();
        for (int what : new int[] {-1, 3, 4, LOWEST, HIGHEST}) {
            fails("what " + what, INDEX, () -> x.history(0, 0, what));
            fails("what " + what + ", ahead of all events", INDEX, () -> x.history(0, -1, what));
            fails("what " + what + ", behind all events", INDEX, () -> x.history(0, 3, what));
        }
    }

    // Two approvals and a serial number.
    private static ReleaseLeaves withOneSerial() {
        ReleaseLeaves x = Drive.withEmptyReleases(1);
        Drive.approveByTwo(x, 0);
        x.serial(0);
        return x;
    }

    // So many events of release 0; event i behind the third is an approval by person i modulo 16.
    private static ReleaseLeaves withEvents(int count) {
        ReleaseLeaves x = withOneSerial();
        for (int i = 3; i < count; i++) {
            x.approve(0, i % 16, i / 16 % 4);
        }
        return x;
    }
}

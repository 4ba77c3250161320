/** For each sentence about marks, wake-ups and rooms that names a boundary case, a test of its own. */
public final class WakeEdges {
    private static final Check check = new Check();

    public static void main(String[] args) {
        markedForAFailedAttemptOnly();
        busyAndBarredLeaveNoMark();
        markedForBoth();
        marksAreOfTheRecipient();
        marksStayWhenMessagesEnd();
        becomesPresent();
        becomesBusyOrBarred();
        wasPresentBefore();
        notMarkedAsAbsent();
        readToTheRoom();
        readBelowTheRoom();
        roomToWhatIsInIt();
        roomAboveWhatIsInIt();
        roomZeroHasNone();
        notMarkedAsFull();
        fullAndNotPresent();
        onlyThatMarkGoesAway();
        dueLaterIsDueNow();
        dueEarlierStays();
        whateverItFailedFor();
        ofAllAccounts();
        onlyOfThatRecipient();
        onlyWhatWaits();
        wokenWithoutMessages();
        wokenAtThisTick();
        readAllOfThem();
        readFewestAndMost();
        partsStayInASmallerRoom();
        modeBefore();
        roomBefore();
        check.end("WakeEdges");
    }

    /** Recipient 0 is marked as absent at tick 1, and message 0 is due at 6. */
    private static MessageCentre markedAbsent() {
        MessageCentre x = Given.mode(MessageCentre.ABSENT);
        x.pass(1);
        return x;
    }

    /** Recipient 0 has room for 2, 2 parts in it, and is marked as full at tick 3; message 0 is due at 13. */
    private static MessageCentre markedFull() {
        MessageCentre x = Given.parts(8);
        x.setRoom(0, 2);
        x.submit(0, 0, 0, 500);
        x.pass(3);
        return x;
    }

    /** The same, with room for none and no part in it. */
    private static MessageCentre markedFullOfNothing() {
        MessageCentre x = Given.room(0);
        x.pass(3);
        return x;
    }

    private static void markedForAFailedAttemptOnly() {
        check.sentence("A recipient for which an attempt failed for being absent or full is marked for that.");
        MessageCentre x = new MessageCentre();
        x.setMode(0, MessageCentre.ABSENT);
        x.setRoom(1, 0);
        x.pass(5);
        check.equal("absent, no attempt", 0, x.marks(0));
        check.equal("full, no attempt", 0, x.marks(1));
        x.submit(0, 0, 0, 500);
        x.submit(0, 1, 0, 500);
        check.equal("absent, no attempt yet", 0, x.marks(0));
        check.equal("full, no attempt yet", 0, x.marks(1));
        x.pass(1);
        check.equal("absent", 1, x.marks(0));
        check.equal("full", 2, x.marks(1));
        x.pass(100);
        check.equal("absent again", 1, x.marks(0));
        check.equal("full again", 2, x.marks(1));
        lastPartThatFitsLeavesNoMark();
    }

    private static void lastPartThatFitsLeavesNoMark() {
        MessageCentre x = new MessageCentre();
        x.setRoom(0, 1);
        x.submit(0, 0, 0, 500);
        check.equal("it fits", 1, x.pass(1));
        check.equal("no attempt failed", 0, x.marks(0));
    }

    private static void busyAndBarredLeaveNoMark() {
        check.sentence("failed for being absent or full");
        MessageCentre busy = Given.mode(MessageCentre.BUSY);
        busy.setRoom(0, 0);
        busy.pass(100);
        check.equal("busy", 0, busy.marks(0));
        MessageCentre barred = Given.mode(MessageCentre.BARRED);
        barred.setRoom(0, 0);
        barred.pass(100);
        check.equal("barred", 0, barred.marks(0));
    }

    private static void markedForBoth() {
        check.sentence("Returns 0 for nothing, 1 for being absent, 2 for being full, 3 for both.");
        MessageCentre x = markedFullOfNothing();
        check.equal("full", 2, x.marks(0));
        x.setMode(0, MessageCentre.ABSENT);
        x.pass(20);
        check.equal("both", 3, x.marks(0));
        x.setMode(0, MessageCentre.PRESENT);
        check.equal("present", 2, x.marks(0));
        x.setRoom(0, 1);
        check.equal("room again", 0, x.marks(0));
        MessageCentre y = markedAbsent();
        check.equal("absent", 1, y.marks(0));
    }

    private static void marksAreOfTheRecipient() {
        check.sentence("A recipient for which an attempt failed");
        for (int recipient = 0; recipient < 6; recipient++) {
            MessageCentre x = new MessageCentre();
            x.setMode(recipient, MessageCentre.ABSENT);
            x.submit(0, recipient, 0, 500);
            x.pass(1);
            for (int other = 0; other < 6; other++) {
                check.equal("recipient " + other, other == recipient ? 1 : 0, x.marks(other));
            }
        }
    }

    private static void marksStayWhenMessagesEnd() {
        check.sentence("it is woken up: that mark goes away");
        MessageCentre absent = markedAbsent();
        absent.delete(0);
        check.equal("absent", 1, absent.marks(0));
        MessageCentre full = markedFull();
        full.delete(0);
        check.equal("full", 2, full.marks(0));
        full.read(0, 1);
        check.equal("read", 0, full.marks(0));
    }

    private static void becomesPresent() {
        check.sentence("When a recipient that is marked as absent becomes present");
        MessageCentre x = markedAbsent();
        x.pass(2);
        check.equal("due", 6, x.due(0));
        x.setMode(0, MessageCentre.PRESENT);
        check.equal("no mark", 0, x.marks(0));
        check.equal("due at this tick", 3, x.due(0));
        check.equal("so attempted with the next one", 1, x.pass(1));
    }

    private static void becomesBusyOrBarred() {
        check.sentence("When a recipient that is marked as absent becomes present");
        MessageCentre x = markedAbsent();
        int[] modes = {MessageCentre.ABSENT, MessageCentre.BUSY, MessageCentre.BARRED};
        for (int mode : modes) {
            x.setMode(0, mode);
            check.equal("marked, mode " + mode, 1, x.marks(0));
            check.equal("due as before, mode " + mode, 6, x.due(0));
        }
        x.setMode(0, MessageCentre.PRESENT);
        check.equal("present after another mode", 1, x.due(0));
        check.equal("no mark", 0, x.marks(0));
    }

    private static void wasPresentBefore() {
        check.sentence("When a recipient that is marked as absent becomes present");
        MessageCentre x = markedFull();
        check.equal("was present", MessageCentre.PRESENT, x.setMode(0, MessageCentre.PRESENT));
        check.equal("marked as full still", 2, x.marks(0));
        check.equal("due as before", 13, x.due(0));
    }

    private static void notMarkedAsAbsent() {
        check.sentence("When a recipient that is marked as absent becomes present");
        MessageCentre x = Given.mode(MessageCentre.BUSY);
        x.pass(1);
        x.setMode(0, MessageCentre.ABSENT);
        x.setMode(0, MessageCentre.PRESENT);
        check.equal("absent, but not marked", 3, x.due(0));
        MessageCentre full = markedFull();
        full.setMode(0, MessageCentre.ABSENT);
        full.setMode(0, MessageCentre.PRESENT);
        check.equal("marked as full alone", 13, full.due(0));
        check.equal("and still", 2, full.marks(0));
    }

    private static void readToTheRoom() {
        check.sentence("parts are read, or its room is changed, so that fewer parts are in it than its room");
        MessageCentre x = markedFull();
        x.setRoom(0, 1);
        check.equal("as many as its room", 1, x.read(0, 1));
        check.equal("marked", 2, x.marks(0));
        check.equal("due", 13, x.due(0));
    }

    private static void readBelowTheRoom() {
        check.sentence("parts are read, or its room is changed, so that fewer parts are in it than its room");
        MessageCentre x = markedFull();
        check.equal("one less than its room", 1, x.read(0, 1));
        check.equal("no mark", 0, x.marks(0));
        check.equal("due", 3, x.due(0));
        check.equal("one more part", 1, x.pass(5));
        check.equal("marked again", 2, x.marks(0));
    }

    private static void roomToWhatIsInIt() {
        check.sentence("parts are read, or its room is changed, so that fewer parts are in it than its room");
        MessageCentre x = markedFull();
        for (int room : new int[] {0, 1, 2}) {
            x.setRoom(0, room);
            check.equal("marked, room " + room, 2, x.marks(0));
            check.equal("due, room " + room, 13, x.due(0));
        }
    }

    private static void roomAboveWhatIsInIt() {
        check.sentence("parts are read, or its room is changed, so that fewer parts are in it than its room");
        MessageCentre x = markedFull();
        x.setRoom(0, 0);
        x.setRoom(0, 3);
        check.equal("no mark", 0, x.marks(0));
        check.equal("due", 3, x.due(0));
        check.equal("one more part", 1, x.pass(5));
    }

    private static void roomZeroHasNone() {
        check.sentence("so that fewer parts are in it than its room");
        MessageCentre x = markedFullOfNothing();
        check.equal("nothing to read", 0, x.read(0, 50));
        x.setRoom(0, 0);
        check.equal("0 are not fewer than 0", 2, x.marks(0));
        check.equal("due", 11, x.due(0));
        x.setRoom(0, 1);
        check.equal("but fewer than 1", 0, x.marks(0));
        check.equal("due now", 3, x.due(0));
    }

    private static void notMarkedAsFull() {
        check.sentence("or one that is marked as full has room again");
        MessageCentre x = Given.room(0);
        x.setMode(0, MessageCentre.BUSY);
        x.pass(1);
        x.setRoom(0, 5);
        x.read(0, 1);
        check.equal("full, but not marked", 3, x.due(0));
        MessageCentre absent = markedAbsent();
        absent.setRoom(0, 50);
        absent.read(0, 1);
        check.equal("marked as absent alone", 6, absent.due(0));
        check.equal("and still", 1, absent.marks(0));
    }

    private static void fullAndNotPresent() {
        check.sentence("or one that is marked as full has room again");
        for (int mode = MessageCentre.ABSENT; mode <= MessageCentre.BARRED; mode++) {
            MessageCentre x = markedFull();
            x.setMode(0, mode);
            x.read(0, 1);
            check.equal("no mark, mode " + mode, 0, x.marks(0));
            check.equal("due, mode " + mode, 3, x.due(0));
        }
    }

    private static void onlyThatMarkGoesAway() {
        check.sentence("that mark goes away");
        MessageCentre x = markedFull();
        x.setMode(0, MessageCentre.ABSENT);
        x.pass(10);
        check.equal("both", 3, x.marks(0));
        x.read(0, 1);
        check.equal("absent stays", 1, x.marks(0));
        MessageCentre y = markedFull();
        y.setMode(0, MessageCentre.ABSENT);
        y.pass(10);
        y.setMode(0, MessageCentre.PRESENT);
        check.equal("full stays", 2, y.marks(0));
        check.equal("due", 13, y.due(0));
        y.pass(1);
        y.read(0, 1);
        check.equal("none stays", 0, y.marks(0));
    }

    private static void dueLaterIsDueNow() {
        check.sentence("and all of its waiting messages that are due later are due at this tick");
        MessageCentre x = new MessageCentre();
        x.setMode(0, MessageCentre.ABSENT);
        for (int i = 0; i < 5; i++) {
            x.submit(0, 0, 0, 500);
        }
        x.pass(5);
        x.setMode(0, MessageCentre.PRESENT);
        for (int message = 0; message < 5; message++) {
            check.equal("message " + message, 5, x.due(message));
        }
        check.equal("all come", 5, x.pass(5));
    }

    private static void dueEarlierStays() {
        check.sentence("that are due later");
        MessageCentre x = new MessageCentre();
        x.setMode(0, MessageCentre.ABSENT);
        x.submit(0, 0, 3, 500);
        x.submit(0, 0, 2, 500);
        x.submit(0, 0, 0, 500);
        x.pass(2);
        x.submit(0, 0, 0, 500);
        x.setMode(0, MessageCentre.PRESENT);
        check.equal("due later", 2, x.due(0));
        check.equal("due later as well", 2, x.due(1));
        check.equal("due earlier", 0, x.due(2));
        check.equal("due now", 2, x.due(3));
    }

    private static void whateverItFailedFor() {
        check.sentence("and all of its waiting messages that are due later");
        MessageCentre x = Given.mode(MessageCentre.BUSY);
        x.submit(0, 0, 0, 500);
        x.pass(1);
        x.setMode(0, MessageCentre.ABSENT);
        x.pass(1);
        check.equal("failed for BUSY", 3, x.due(0));
        check.equal("failed for ABSENT", 7, x.due(1));
        x.setMode(0, MessageCentre.PRESENT);
        check.equal("the first is woken", 2, x.due(0));
        check.equal("the second is woken", 2, x.due(1));
        wokenForRoomWhateverItFailedFor();
    }

    private static void wokenForRoomWhateverItFailedFor() {
        MessageCentre x = Given.room(0);
        x.submit(0, 0, 0, 500);
        x.setMode(0, MessageCentre.BUSY);
        x.pass(1);
        x.setMode(0, MessageCentre.PRESENT);
        x.pass(1);
        check.equal("failed for BUSY", 3, x.due(0));
        check.equal("failed for FULL", 12, x.due(1));
        x.setRoom(0, 1);
        check.equal("the first is woken by room", 2, x.due(0));
        check.equal("the second is woken by room", 2, x.due(1));
    }

    private static void ofAllAccounts() {
        check.sentence("and all of its waiting messages that are due later");
        MessageCentre x = new MessageCentre();
        x.setMode(5, MessageCentre.ABSENT);
        for (int account = 0; account < 4; account++) {
            x.submit(account, 5, account, 500);
        }
        x.pass(4);
        x.setMode(5, MessageCentre.PRESENT);
        for (int message = 0; message < 4; message++) {
            check.equal("of account " + message, 4, x.due(message));
        }
    }

    private static void onlyOfThatRecipient() {
        check.sentence("and all of its waiting messages");
        MessageCentre x = new MessageCentre();
        for (int recipient = 0; recipient < 6; recipient++) {
            x.setMode(recipient, MessageCentre.ABSENT);
            x.submit(0, recipient, 0, 500);
        }
        x.pass(1);
        x.setMode(3, MessageCentre.PRESENT);
        for (int recipient = 0; recipient < 6; recipient++) {
            check.equal("due for " + recipient, recipient == 3 ? 1 : 6, x.due(recipient));
            check.equal("mark of " + recipient, recipient == 3 ? 0 : 1, x.marks(recipient));
        }
    }

    private static void onlyWhatWaits() {
        check.sentence("and all of its waiting messages");
        MessageCentre x = markedAbsent();
        x.delete(0);
        x.setMode(0, MessageCentre.PRESENT);
        check.equal("no part of what was deleted", 0, x.pass(10));
        check.noState("not due", () -> x.due(0));
    }

    private static void wokenWithoutMessages() {
        check.sentence("it is woken up: that mark goes away");
        MessageCentre x = markedAbsent();
        x.delete(0);
        x.setMode(0, MessageCentre.PRESENT);
        check.equal("no mark", 0, x.marks(0));
        x.setMode(0, MessageCentre.BUSY);
        x.submit(0, 0, 0, 500);
        x.pass(1);
        x.setMode(0, MessageCentre.PRESENT);
        check.equal("no wake-up a second time", x.now() + 2, x.due(1));
    }

    private static void wokenAtThisTick() {
        check.sentence("are due at this tick");
        MessageCentre x = Given.room(0);
        x.pass(91);
        check.equal("due after four failures", 71 + 80, x.due(0));
        x.setRoom(0, 1);
        check.equal("due at this tick", 91, x.due(0));
        check.equal("attempted with the next one", 1, x.pass(1));
    }

    private static void readAllOfThem() {
        check.sentence("all of them, if there are fewer");
        MessageCentre x = markedFull();
        check.equal("one of two", 1, x.read(0, 1));
        check.equal("one of one", 0, x.read(0, 1));
        check.equal("one of none", 0, x.read(0, 1));
        MessageCentre y = markedFull();
        check.equal("two of two", 0, y.read(0, 2));
        MessageCentre z = markedFull();
        check.equal("three of two", 0, z.read(0, 3));
        check.equal("none in it", 0, z.inRoom(0));
        check.equal("then its whole room is there", 2, z.pass(10));
    }

    private static void readFewestAndMost() {
        check.sentence("parts: 1 to 50");
        MessageCentre x = markedFull();
        check.noArgument("0", () -> x.read(0, 0));
        check.noArgument("51", () -> x.read(0, 51));
        check.equal("two as before", 2, x.inRoom(0));
        check.equal("marked as before", 2, x.marks(0));
        check.equal("1", 1, x.read(0, 1));
        check.equal("50", 0, x.read(0, 50));
    }

    private static void partsStayInASmallerRoom() {
        check.sentence("the parts in it stay, also if they are more");
        MessageCentre x = markedFull();
        check.equal("the room before", 2, x.setRoom(0, 1));
        check.equal("two in a room for one", 2, x.inRoom(0));
        check.equal("the room before", 1, x.setRoom(0, 0));
        check.equal("two in a room for none", 2, x.inRoom(0));
        check.equal("one read", 1, x.read(0, 1));
        check.equal("no part comes", 0, x.pass(50));
        check.equal("one in a room for none", 1, x.inRoom(0));
    }

    private static void modeBefore() {
        check.sentence("Returns what it was before.");
        MessageCentre x = new MessageCentre();
        for (int recipient = 0; recipient < 6; recipient++) {
            check.equal("at first", MessageCentre.PRESENT, x.setMode(recipient, MessageCentre.ABSENT));
            check.equal("absent", MessageCentre.ABSENT, x.setMode(recipient, MessageCentre.BUSY));
            check.equal("busy", MessageCentre.BUSY, x.setMode(recipient, MessageCentre.BARRED));
            check.equal("barred", MessageCentre.BARRED, x.setMode(recipient, MessageCentre.BARRED));
            check.equal("barred still", MessageCentre.BARRED, x.setMode(recipient, MessageCentre.PRESENT));
        }
    }

    private static void roomBefore() {
        check.sentence("Returns the room before.");
        MessageCentre x = new MessageCentre();
        for (int recipient = 0; recipient < 6; recipient++) {
            check.equal("at first", 10, x.setRoom(recipient, 0));
            check.equal("0", 0, x.setRoom(recipient, 50));
            check.equal("50", 50, x.setRoom(recipient, recipient));
            check.equal("its own", recipient, x.setRoom(recipient, recipient));
        }
    }
}

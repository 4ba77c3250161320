/** For each sentence about the ticks that pass and their attempts that names a boundary case, a test of its own. */
public final class TickEdges {
    private static final Check check = new Check();

    public static void main(String[] args) {
        timeIsZeroAtFirst();
        fewestAndMostTicks();
        oneByOne();
        tellsThePartsDelivered();
        longestUse();
        presentWithRoomForTenAtFirst();
        shortestValidity();
        longestValidity();
        everyValidity();
        validityFromSubmission();
        expireAheadOfAttempts();
        expiredLetsAnotherBeAttempted();
        expireByRisingNumbers();
        onlyWaitingOnesExpire();
        partlyDeliveredExpires();
        oneAttemptForEachRecipient();
        attemptsByRisingRecipients();
        noAttemptIfNoneWaits();
        dueAtThisTickOrEarlier();
        greatestPriority();
        notDueIsNoHindrance();
        dueTheEarliest();
        lowestNumber();
        nextIfAllWereDue();
        nextIfNoneWaits();
        roomForOneMore();
        roomOfZero();
        largestRoom();
        dueAtThisTickAgain();
        nextPart();
        lastPartIsDelivered();
        barredRefuses();
        busyFails();
        absentFails();
        fullFails();
        busyAndAbsentAreNotFull();
        attemptsAreCounted();
        logOfAnAttemptInEveryTick();
        failuresOfEachCause();
        noLongerThanEightTimes();
        everyNumberOfFailures();
        failuresAreOfTheMessage();
        failuresAreForgotten();
        check.end("TickEdges");
    }

    private static void timeIsZeroAtFirst() {
        check.sentence("Time is a number of ticks, 0 at first.");
        MessageCentre x = new MessageCentre();
        check.equal("at first", 0, x.now());
        x.submit(0, 0, 0, 1);
        check.equal("only pass lets ticks pass", 0, x.now());
    }

    private static void fewestAndMostTicks() {
        check.sentence("ticks: 1 to 100");
        MessageCentre x = new MessageCentre();
        x.pass(1);
        check.equal("1", 1, x.now());
        x.pass(100);
        check.equal("100 more", 101, x.now());
        check.noArgument("0", () -> x.pass(0));
        check.noArgument("101", () -> x.pass(101));
        check.equal("as before", 101, x.now());
    }

    /** Messages for which much happens in 100 ticks, and what is told of it. */
    private static MessageCentre eventful() {
        MessageCentre x = Given.parts(4);
        Given.wantReceipts(x, 0);
        for (int recipient = 0; recipient < 6; recipient++) {
            x.submit(0, recipient, recipient % 2, 30 + 10 * recipient);
            x.submit(0, recipient, 1, 60);
            x.submit(0, recipient, 2, 7);
            x.setMode(recipient, recipient % 4);
            x.setRoom(recipient, 1 + recipient);
        }
        return x;
    }

    private static void oneByOne() {
        check.sentence("Lets ticks pass, one by one.");
        MessageCentre together = eventful();
        MessageCentre single = eventful();
        int arrived = 0;
        for (int i = 0; i < 100; i++) {
            arrived += single.pass(1);
        }
        check.equal("parts", arrived, together.pass(100));
        check.equal("all that can be asked", Told.of(single), Told.of(together));
        check.equal("receipts", Given.receipts(single, 0), Given.receipts(together, 0));
    }

    private static void tellsThePartsDelivered() {
        check.sentence("Returns how many parts are delivered in them.");
        MessageCentre x = Given.parts(8);
        check.equal("nothing waits", 0, x.pass(100));
        for (int recipient = 0; recipient < 6; recipient++) {
            x.setRoom(recipient, 50);
            for (int i = 0; i < 3; i++) {
                x.submit(0, recipient, 0, 500);
            }
        }
        check.equal("one for each recipient", 6, x.pass(1));
        check.equal("two for each", 12, x.pass(2));
        check.equal("the others, until none is left", 6 * 24 - 18, x.pass(100));
        check.equal("no more", 0, x.pass(100));
    }

    private static void longestUse() {
        check.sentence("An object is used for at most 512 calls after it has been made");
        MessageCentre x = new MessageCentre();
        for (int call = 0; call < 508; call++) {
            x.pass(100);
        }
        check.equal("the 509th submits", 0, x.submit(0, 0, 0, 500));
        check.equal("the 510th asks when it is due", 50_800, x.due(0));
        check.equal("the 511th brings a part", 1, x.pass(100));
        check.equal("the 512th asks for the tick", 50_900, x.now());
    }

    private static void presentWithRoomForTenAtFirst() {
        check.sentence("present at first; it has room for some parts, 10 at first, and some parts in it");
        for (int recipient = 0; recipient < 6; recipient++) {
            MessageCentre x = Given.parts(8);
            x.submit(0, recipient, 0, 500);
            x.submit(0, recipient, 0, 500);
            check.equal("no part yet", 0, x.inRoom(recipient));
            check.equal("the tenth", 10, x.pass(10));
            check.equal("not marked", 0, x.marks(recipient));
            check.equal("not the eleventh", 0, x.pass(1));
            check.equal("ten", 10, x.inRoom(recipient));
            check.equal("marked as full", 2, x.marks(recipient));
            check.equal("mode", MessageCentre.PRESENT, x.setMode(recipient, MessageCentre.PRESENT));
            check.equal("room", 10, x.setRoom(recipient, 10));
        }
    }

    private static void shortestValidity() {
        check.sentence("validity: 1 to 500 ticks");
        MessageCentre x = new MessageCentre();
        x.submit(0, 0, 0, 1);
        check.equal("no part", 0, x.pass(1));
        check.equal("expired", MessageCentre.EXPIRED, x.state(0));
        check.equal("by log", MessageCentre.EXPIRED, x.stateByLog(0));
        check.equal("none waits", 0, x.waiting(0));
        check.equal("no attempt", 0, x.attempts(0));
    }

    private static void longestValidity() {
        check.sentence("validity: 1 to 500 ticks");
        MessageCentre x = Given.room(0);
        Given.pass(x, 499);
        check.equal("499 ticks", MessageCentre.WAITING, x.state(0));
        x.pass(1);
        check.equal("500 ticks", MessageCentre.EXPIRED, x.state(0));
    }

    private static void everyValidity() {
        check.sentence("as many ticks have passed since they were submitted as they are valid, or more");
        for (int validity = 2; validity <= 500; validity++) {
            MessageCentre x = new MessageCentre();
            x.setMode(0, MessageCentre.BUSY);
            x.submit(0, 0, 0, validity);
            Given.pass(x, validity - 1);
            check.equal("a tick before " + validity, MessageCentre.WAITING, x.state(0));
            x.pass(1);
            check.equal("after " + validity, MessageCentre.EXPIRED, x.state(0));
            check.equal("by log after " + validity, MessageCentre.EXPIRED, x.stateByLog(0));
        }
    }

    private static void validityFromSubmission() {
        check.sentence("since they were submitted");
        MessageCentre x = new MessageCentre();
        x.setMode(0, MessageCentre.BUSY);
        x.pass(50);
        x.submit(0, 0, 0, 3);
        x.pass(2);
        check.equal("2 ticks later", MessageCentre.WAITING, x.state(0));
        x.pass(1);
        check.equal("3 ticks later", MessageCentre.EXPIRED, x.state(0));
    }

    private static void expireAheadOfAttempts() {
        check.sentence("first all waiting messages expire, by rising numbers, whose validity is over");
        MessageCentre x = Given.parts(2);
        x.submit(0, 0, 0, 2);
        x.submit(0, 1, 0, 3);
        check.equal("both", 2, x.pass(1));
        check.equal("only that which did not expire", 1, x.pass(1));
        check.equal("expired, delivered", new int[] {2, 1}, Given.states(x));
        check.equal("no attempt in the last tick", 1, x.attempts(0));
        MessageCentre barred = Given.mode(MessageCentre.BARRED);
        barred.submit(0, 0, 3, 1);
        barred.pass(1);
        check.equal("expired, not refused", new int[] {4, 2}, Given.states(barred));
    }

    private static void expiredLetsAnotherBeAttempted() {
        check.sentence("first all waiting messages expire");
        MessageCentre x = new MessageCentre();
        x.submit(0, 0, 3, 1);
        x.submit(0, 0, 0, 500);
        check.equal("the other one's part", 1, x.pass(1));
        check.equal("expired, delivered", new int[] {2, 1}, Given.states(x));
    }

    private static void expireByRisingNumbers() {
        check.sentence("by rising numbers, whose validity is over");
        MessageCentre x = new MessageCentre();
        Given.wantReceipts(x, 0);
        for (int recipient = 5; recipient >= 0; recipient--) {
            x.submit(0, recipient, 5 - recipient > 3 ? 3 : 0, 1);
        }
        x.pass(1);
        check.equal("receipts", new int[] {2, 12, 22, 32, 42, 52}, Given.receipts(x, 0));
    }

    private static void onlyWaitingOnesExpire() {
        check.sentence("first all waiting messages expire");
        MessageCentre x = new MessageCentre();
        Given.wantReceipts(x, 0);
        x.setMode(2, MessageCentre.BARRED);
        for (int recipient = 0; recipient < 3; recipient++) {
            x.submit(0, recipient, 0, 2);
        }
        x.delete(1);
        x.pass(100);
        check.equal("they stay as they ended", new int[] {1, 3, 4}, Given.states(x));
        check.equal("one receipt each", new int[] {13, 1, 24}, Given.receipts(x, 0));
    }

    private static void partlyDeliveredExpires() {
        check.sentence("It waits from then on, until it is delivered, expired, deleted or refused.");
        MessageCentre x = Given.parts(8);
        x.submit(0, 0, 0, 8);
        check.equal("seven parts", 7, x.pass(100));
        check.equal("expired", MessageCentre.EXPIRED, x.state(0));
        check.equal("by log", MessageCentre.EXPIRED, x.stateByLog(0));
        check.equal("the parts were delivered", 7, x.delivered(0));
        check.equal("and stay in the room", 7, x.inRoom(0));
    }

    private static void oneAttemptForEachRecipient() {
        check.sentence("then one attempt is made for each recipient");
        MessageCentre x = new MessageCentre();
        for (int i = 0; i < 12; i++) {
            x.submit(0, i % 6, 0, 500);
        }
        check.equal("one each", 6, x.pass(1));
        check.equal("one each again", 6, x.pass(1));
        check.equal("no more", 0, x.pass(1));
        MessageCentre busy = Given.mode(MessageCentre.BUSY);
        busy.submit(0, 0, 0, 500);
        busy.pass(1);
        check.equal("one that fails is one", 0, busy.attempts(1));
    }

    private static void attemptsByRisingRecipients() {
        check.sentence("one attempt is made for each recipient, by rising numbers");
        MessageCentre x = new MessageCentre();
        Given.wantReceipts(x, 0);
        for (int recipient = 5; recipient >= 0; recipient--) {
            x.submit(0, recipient, recipient % 4, 500);
        }
        x.pass(1);
        check.equal("receipts", new int[] {51, 41, 31, 21, 11, 1}, Given.receipts(x, 0));
    }

    private static void noAttemptIfNoneWaits() {
        check.sentence("that has waiting messages");
        MessageCentre x = new MessageCentre();
        x.setMode(0, MessageCentre.ABSENT);
        x.setRoom(1, 0);
        x.submit(0, 0, 0, 1);
        x.delete(x.submit(0, 1, 0, 500));
        x.pass(50);
        check.equal("none, no mark as absent", 0, x.marks(0));
        check.equal("none, no mark as full", 0, x.marks(1));
    }

    private static void dueAtThisTickOrEarlier() {
        check.sentence("that are due at this tick or earlier");
        MessageCentre x = Given.mode(MessageCentre.BUSY);
        x.pass(1);
        check.equal("due", 3, x.due(0));
        x.setMode(0, MessageCentre.PRESENT);
        check.equal("not at tick 2", 0, x.pass(1));
        check.equal("at tick 3", 1, x.pass(1));
        MessageCentre earlier = new MessageCentre();
        earlier.submit(0, 0, 0, 500);
        check.equal("due at tick 0, at tick 1", 1, earlier.pass(1));
    }

    private static void greatestPriority() {
        check.sentence("for that with the greatest priority");
        MessageCentre x = new MessageCentre();
        Given.wantReceipts(x, 0);
        for (int priority = 0; priority <= 3; priority++) {
            x.submit(0, 0, priority, 500);
            x.submit(0, 0, priority, 500);
        }
        x.pass(8);
        check.equal("receipts", new int[] {61, 71, 41, 51, 21, 31, 1, 11}, Given.receipts(x, 0));
    }

    private static void notDueIsNoHindrance() {
        check.sentence("that has waiting messages that are due at this tick or earlier: for that with the greatest priority");
        MessageCentre x = new MessageCentre();
        x.setMode(0, MessageCentre.BUSY);
        x.submit(0, 0, 3, 500);
        x.pass(1);
        x.setMode(0, MessageCentre.PRESENT);
        x.submit(0, 0, 0, 500);
        check.equal("another is due", 1, x.pass(1));
        check.equal("the smaller priority", new int[] {0, 1}, Given.states(x));
    }

    private static void dueTheEarliest() {
        check.sentence("of several for that which is due the earliest");
        MessageCentre x = new MessageCentre();
        x.setMode(0, MessageCentre.BUSY);
        x.submit(0, 0, 1, 500);
        x.pass(1);
        x.submit(0, 0, 1, 500);
        x.pass(1);
        check.equal("due later, though its number is lower", 3, x.due(0));
        check.equal("due still later", 4, x.due(1));
        x.setMode(0, MessageCentre.PRESENT);
        x.submit(0, 0, 1, 500);
        x.submit(0, 0, 0, 500);
        x.pass(2);
        check.equal("due at 2, then at 3", new int[] {1, 0, 1, 0}, Given.states(x));
        x.pass(1);
        check.equal("due at 4 with priority 1 ahead of 2 with 0", new int[] {1, 1, 1, 0}, Given.states(x));
    }

    private static void lowestNumber() {
        check.sentence("and then for that with the lowest number");
        MessageCentre x = new MessageCentre();
        Given.wantReceipts(x, 0);
        Given.wantReceipts(x, 1);
        x.submit(1, 0, 2, 500);
        x.submit(0, 0, 2, 500);
        x.submit(0, 0, 2, 500);
        x.pass(1);
        check.equal("the first", new int[] {1, 0, 0}, Given.states(x));
        x.pass(1);
        check.equal("the second", new int[] {1, 1, 0}, Given.states(x));
        sameDueAfterWaking();
    }

    private static void sameDueAfterWaking() {
        MessageCentre x = new MessageCentre();
        x.setMode(0, MessageCentre.ABSENT);
        x.submit(0, 0, 2, 500);
        x.submit(0, 0, 2, 500);
        x.submit(0, 0, 3, 500);
        x.pass(3);
        x.setMode(0, MessageCentre.PRESENT);
        x.delete(2);
        check.equal("both due at tick 3", x.due(0), x.due(1));
        x.pass(1);
        check.equal("the lower number", new int[] {1, 0, 3}, Given.states(x));
    }

    private static void nextIfAllWereDue() {
        check.sentence("the waiting message for which the next attempt for a recipient would be made, if all of them were due");
        MessageCentre x = new MessageCentre();
        x.setMode(0, MessageCentre.BUSY);
        x.submit(0, 0, 3, 500);
        x.pass(1);
        x.submit(0, 0, 2, 500);
        check.equal("the greatest priority, though not due", 0, x.next(0));
        x.submit(0, 0, 3, 500);
        check.equal("of several that which is due the earliest", 2, x.next(0));
        x.submit(0, 0, 3, 500);
        check.equal("then that with the lowest number", 2, x.next(0));
        x.delete(2);
        x.delete(3);
        check.equal("only of those that wait", 0, x.next(0));
        x.delete(0);
        check.equal("the last one", 1, x.next(0));
    }

    private static void nextIfNoneWaits() {
        check.sentence("Returns the message; NONE if none waits.");
        MessageCentre x = new MessageCentre();
        check.equal("none is there", MessageCentre.NONE, x.next(0));
        x.submit(0, 0, 0, 500);
        check.equal("message 0", 0, x.next(0));
        check.equal("another recipient", MessageCentre.NONE, x.next(5));
        x.pass(1);
        check.equal("delivered", MessageCentre.NONE, x.next(0));
        x.delete(x.submit(0, 0, 0, 500));
        check.equal("deleted", MessageCentre.NONE, x.next(0));
    }

    private static void roomForOneMore() {
        check.sentence("An attempt for a present recipient with room");
        MessageCentre x = Given.parts(8);
        x.setRoom(0, 2);
        x.submit(0, 0, 0, 500);
        x.pass(1);
        check.equal("the last that has room", 1, x.pass(1));
        check.equal("full", 0, x.pass(1));
        check.equal("two", 2, x.inRoom(0));
        x.setRoom(0, 1);
        check.equal("more in it than its room", 0, x.pass(10));
        check.equal("two attempts failed", 4, x.attempts(0));
    }

    private static void roomOfZero() {
        check.sentence("parts: 0 to 50");
        MessageCentre x = Given.room(0);
        check.equal("no part", 0, x.pass(100));
        check.equal("marked as full", 2, x.marks(0));
        check.equal("no part in it", 0, x.inRoom(0));
        check.equal("the room", 0, x.setRoom(0, 0));
    }

    private static void largestRoom() {
        check.sentence("parts: 0 to 50");
        MessageCentre x = Given.parts(8);
        check.equal("the room before", 10, x.setRoom(0, 50));
        for (int i = 0; i < 7; i++) {
            x.submit(0, 0, 0, 500);
        }
        check.equal("fifty", 50, x.pass(100));
        check.equal("in it", 50, x.inRoom(0));
        check.equal("marked as full", 2, x.marks(0));
        check.equal("all read", 0, x.read(0, 50));
        check.equal("the other six", 6, x.pass(100));
    }

    private static void dueAtThisTickAgain() {
        check.sentence("the message is due at this tick again");
        MessageCentre x = Given.parts(3);
        x.submit(0, 0, 0, 500);
        x.pass(1);
        check.equal("at tick 1", 1, x.due(0));
        x.pass(1);
        check.equal("at tick 2", 2, x.due(0));
        check.equal("so the next tick brings a part", 1, x.pass(1));
        takingTurns();
    }

    private static void takingTurns() {
        MessageCentre x = Given.parts(2);
        x.submit(0, 0, 0, 500);
        x.submit(0, 0, 0, 500);
        x.pass(2);
        check.equal("a part of the first", 1, x.delivered(0));
        check.equal("then of the second, due earlier", 1, x.delivered(1));
        x.pass(1);
        check.equal("then of the first", new int[] {1, 0}, Given.states(x));
    }

    private static void nextPart() {
        check.sentence("brings the next part of the message into its room");
        MessageCentre x = Given.parts(8);
        x.submit(0, 3, 0, 500);
        for (int parts = 0; parts < 8; parts++) {
            check.equal("delivered", parts, x.delivered(0));
            check.equal("in the room", parts, x.inRoom(3));
            check.equal("a part", 1, x.pass(1));
        }
        check.equal("all delivered", 8, x.delivered(0));
        check.equal("all in the room", 8, x.inRoom(3));
        check.equal("no more", 0, x.pass(1));
        check.equal("all of them", 8, x.parts(0));
    }

    private static void lastPartIsDelivered() {
        check.sentence("if that was its last part, it is delivered");
        for (int parts = 1; parts <= 8; parts++) {
            MessageCentre x = Given.parts(parts);
            x.submit(0, 0, 0, 500);
            Given.pass(x, parts - 1);
            check.equal("before the last of " + parts, MessageCentre.WAITING, x.state(0));
            check.equal("by log before the last", MessageCentre.WAITING, x.stateByLog(0));
            x.pass(1);
            check.equal("the last of " + parts, MessageCentre.DELIVERED, x.state(0));
            check.equal("by log", MessageCentre.DELIVERED, x.stateByLog(0));
            check.equal("none waits", 0, x.waiting(0));
        }
    }

    private static void barredRefuses() {
        check.sentence("An attempt for a barred recipient lets the message be refused.");
        MessageCentre x = Given.parts(2);
        x.setRoom(0, 1);
        x.submit(0, 0, 0, 500);
        x.submit(0, 0, 0, 500);
        x.pass(1);
        x.setMode(0, MessageCentre.BARRED);
        check.equal("no part", 0, x.pass(1));
        check.equal("one attempt, one refused", new int[] {0, 4}, Given.states(x));
        x.pass(1);
        check.equal("after a part, without room", new int[] {4, 4}, Given.states(x));
        check.equal("by log", MessageCentre.REFUSED, x.stateByLog(0));
        check.equal("the part stays", 1, x.inRoom(0));
        check.equal("no mark", 0, x.marks(0));
        check.equal("the attempt is one", 2, x.attempts(0));
    }

    private static void busyFails() {
        check.sentence("for a busy recipient with the cause BUSY");
        MessageCentre x = Given.mode(MessageCentre.BUSY);
        check.equal("no part", 0, x.pass(1));
        check.equal("due", 1 + 2, x.due(0));
        check.equal("it waits", MessageCentre.WAITING, x.state(0));
        check.equal("no mark", 0, x.marks(0));
    }

    private static void absentFails() {
        check.sentence("for an absent one with the cause ABSENT");
        MessageCentre x = Given.mode(MessageCentre.ABSENT);
        check.equal("no part", 0, x.pass(1));
        check.equal("due", 1 + 5, x.due(0));
        check.equal("it waits", MessageCentre.WAITING, x.state(0));
        check.equal("marked", 1, x.marks(0));
    }

    private static void fullFails() {
        check.sentence("for a present one without room with the cause FULL");
        MessageCentre x = Given.room(0);
        check.equal("no part", 0, x.pass(1));
        check.equal("due", 1 + 10, x.due(0));
        check.equal("it waits", MessageCentre.WAITING, x.state(0));
        check.equal("marked", 2, x.marks(0));
    }

    private static void busyAndAbsentAreNotFull() {
        check.sentence("for a present one without room with the cause FULL");
        MessageCentre busy = Given.room(0);
        busy.setMode(0, MessageCentre.BUSY);
        busy.pass(1);
        check.equal("busy without room", 1 + 2, busy.due(0));
        check.equal("no mark", 0, busy.marks(0));
        MessageCentre absent = Given.room(0);
        absent.setMode(0, MessageCentre.ABSENT);
        absent.pass(1);
        check.equal("absent without room", 1 + 5, absent.due(0));
        check.equal("marked as absent alone", 1, absent.marks(0));
    }

    private static void attemptsAreCounted() {
        check.sentence("Returns how many attempts were made for a message.");
        MessageCentre x = Given.parts(2);
        x.setRoom(0, 1);
        x.submit(0, 0, 0, 500);
        check.equal("none", 0, x.attempts(0));
        x.pass(1);
        check.equal("one that brought a part", 1, x.attempts(0));
        x.pass(1);
        check.equal("one for FULL", 2, x.attempts(0));
        x.setMode(0, MessageCentre.BUSY);
        x.pass(10);
        check.equal("one for BUSY", 3, x.attempts(0));
        x.setMode(0, MessageCentre.ABSENT);
        x.pass(2);
        check.equal("one for ABSENT", 4, x.attempts(0));
        x.setMode(0, MessageCentre.BARRED);
        x.pass(5);
        check.equal("one that was refused", 5, x.attempts(0));
    }

    /** Two parts for which an attempt fails in each tick but the last one of the validity. */
    private static MessageCentre attemptedInEveryTick(int validity) {
        MessageCentre x = Given.parts(2);
        x.submit(0, 0, 0, validity);
        for (int tick = 1; tick < validity - 1; tick++) {
            x.setMode(0, MessageCentre.ABSENT);
            x.pass(1);
            x.setMode(0, MessageCentre.PRESENT);
        }
        x.pass(1);
        check.equal("attempts", validity - 1, x.attempts(0));
        return x;
    }

    private static void logOfAnAttemptInEveryTick() {
        check.sentence("Returns the same, found from the log of all that happened to the message.");
        MessageCentre x = attemptedInEveryTick(160);
        check.equal("159 attempts, one part", MessageCentre.WAITING, x.stateByLog(0));
        x.pass(1);
        check.equal("expired behind them", MessageCentre.EXPIRED, x.stateByLog(0));
        MessageCentre y = attemptedInEveryTick(160);
        y.delete(0);
        check.equal("deleted behind them", MessageCentre.DELETED, y.stateByLog(0));
        MessageCentre z = attemptedInEveryTick(3);
        z.pass(1);
        check.equal("one part of two is not delivered", MessageCentre.EXPIRED, z.stateByLog(0));
    }

    /** How long after each failure the message is due again, if it is not woken up. */
    private static int[] delays(MessageCentre x, int failures) {
        int[] delays = new int[failures];
        x.pass(1);
        for (int i = 0; i < failures; i++) {
            delays[i] = x.due(0) - x.now();
            check.equal("failures", i + 1, x.attempts(0));
            Given.pass(x, delays[i]);
        }
        return delays;
    }

    private static void failuresOfEachCause() {
        check.sentence("2 for BUSY, 5 for ABSENT, 10 for FULL, each times 2 to the power of n - 1");
        check.equal("BUSY", new int[] {2, 4, 8, 16}, delays(Given.mode(MessageCentre.BUSY), 4));
        check.equal("ABSENT", new int[] {5, 10, 20, 40}, delays(Given.mode(MessageCentre.ABSENT), 4));
        check.equal("FULL", new int[] {10, 20, 40, 80}, delays(Given.room(0), 4));
    }

    private static void noLongerThanEightTimes() {
        check.sentence("or times 8, if that is less");
        check.equal("BUSY", new int[] {2, 4, 8, 16, 16, 16}, delays(Given.mode(MessageCentre.BUSY), 6));
        check.equal("ABSENT", new int[] {5, 10, 20, 40, 40, 40}, delays(Given.mode(MessageCentre.ABSENT), 6));
        check.equal("FULL", new int[] {10, 20, 40, 80, 80, 80}, delays(Given.room(0), 6));
    }

    /** So many failures that the power of 2 would not be an int, nor a long; a wake-up each lets them be. */
    private static void everyNumberOfFailures() {
        check.sentence("or times 8, if that is less");
        int[] busy = delays(Given.mode(MessageCentre.BUSY), 32);
        MessageCentre absent = Given.mode(MessageCentre.ABSENT);
        MessageCentre full = Given.room(0);
        for (int n = 1; n <= 120; n++) {
            int times = n < 4 ? 1 << n - 1 : 8;
            if (n <= busy.length) {
                check.equal("BUSY, failure " + n, 2 * times, busy[n - 1]);
            }
            absent.pass(1);
            check.equal("ABSENT, failure " + n, n + 5 * times, absent.due(0));
            absent.setMode(0, MessageCentre.PRESENT);
            absent.setMode(0, MessageCentre.ABSENT);
            full.pass(1);
            check.equal("FULL, failure " + n, n + 10 * times, full.due(0));
            full.setRoom(0, 1);
            full.setRoom(0, 0);
        }
    }

    private static void failuresAreOfTheMessage() {
        check.sentence("When a message fails the n-th time for a cause");
        MessageCentre x = Given.mode(MessageCentre.BUSY);
        x.pass(3);
        check.equal("the second failure of message 0", 3 + 4, x.due(0));
        x.submit(0, 0, 0, 500);
        x.pass(1);
        check.equal("the first of message 1", 4 + 2, x.due(1));
        x.setMode(0, MessageCentre.ABSENT);
        x.pass(2);
        check.equal("its first for another cause", 6 + 5, x.due(1));
        x.setMode(0, MessageCentre.BUSY);
        x.pass(1);
        check.equal("the third of message 0", 7 + 8, x.due(0));
        x.pass(4);
        check.equal("the second of message 1, for this cause", 11 + 4, x.due(1));
    }

    private static void failuresAreForgotten() {
        check.sentence("and its failures are forgotten");
        MessageCentre x = Given.parts(3);
        x.setRoom(0, 0);
        x.submit(0, 0, 0, 500);
        x.pass(1);
        x.setMode(0, MessageCentre.BUSY);
        x.pass(10);
        x.setMode(0, MessageCentre.ABSENT);
        x.pass(2);
        check.equal("one failure for each cause", 13 + 5, x.due(0));
        x.setRoom(0, 1);
        x.setMode(0, MessageCentre.PRESENT);
        check.equal("a part", 1, x.pass(1));
        x.pass(1);
        check.equal("the first for FULL", 15 + 10, x.due(0));
        x.setMode(0, MessageCentre.BUSY);
        x.pass(10);
        check.equal("the first for BUSY", 25 + 2, x.due(0));
        x.setMode(0, MessageCentre.ABSENT);
        x.pass(2);
        check.equal("the first for ABSENT", 27 + 5, x.due(0));
        x.pass(5);
        check.equal("the second for ABSENT", 32 + 10, x.due(0));
    }
}

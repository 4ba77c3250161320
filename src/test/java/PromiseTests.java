/** For each promise of the document: ordinary inputs, the edges that it names, and wrong inputs. */
public final class PromiseTests {
    private static final int MIN = Integer.MIN_VALUE;
    private static final int MAX = Integer.MAX_VALUE;
    private static final int[] NO_ACCOUNTS = {-1, 4, 5, MIN, MAX};
    private static final int[] NO_RECIPIENTS = {-1, 6, 7, MIN, MAX};

    private static final Check check = new Check();

    public static void main(String[] args) {
        constants();
        promise01NewObject();
        promise02DraftOneOrMoreParts();
        promise02DraftWrong();
        promise03SetOptionsAreThoseOfLaterMessages();
        promise03SetOptionsWrong();
        promise04SetRate();
        promise04SetRateWrong();
        promise05SubmitNumbers();
        promise05SubmitWrong();
        promise05SubmitKnownAgain();
        promise05SubmitKnownAgainOfSeveral();
        promise05SubmitThrottled();
        promise05SubmitForty();
        promise05SubmitReplaces();
        promise06Delete();
        promise07Messages();
        promise08State();
        promise09StateByLog();
        promise10Parts();
        promise11LettersIn();
        promise12Delivered();
        promise13Attempts();
        promise14Due();
        promise14DueAfterFailures();
        promise14FailuresForgotten();
        promise15SetModeWakes();
        promise15SetModeWrong();
        promise16SetRoom();
        promise16SetRoomWakes();
        promise17Read();
        promise17ReadWakes();
        promise18InRoom();
        promise19Marks();
        promise20Waiting();
        promise21Next();
        promise22PassOrders();
        promise22PassExpiresFirst();
        promise22PassWrong();
        promise23Now();
        promise24Receipts();
        promise25TakeReceipt();
        promise25OrderOfReceipts();
        promise26Share();
        check.end("PromiseTests");
    }

    private static void constants() {
        check.equal("NONE", -1, MessageCentre.NONE);
        check.equal("WAITING", 0, MessageCentre.WAITING);
        check.equal("DELIVERED", 1, MessageCentre.DELIVERED);
        check.equal("EXPIRED", 2, MessageCentre.EXPIRED);
        check.equal("DELETED", 3, MessageCentre.DELETED);
        check.equal("REFUSED", 4, MessageCentre.REFUSED);
        check.equal("PRESENT", 0, MessageCentre.PRESENT);
        check.equal("ABSENT", 1, MessageCentre.ABSENT);
        check.equal("BUSY", 2, MessageCentre.BUSY);
        check.equal("BARRED", 3, MessageCentre.BARRED);
    }

    private static void promise01NewObject() {
        MessageCentre x = new MessageCentre();
        check.equal("1 messages", 0, x.messages());
        check.equal("1 now", 0, x.now());
        check.equal("1 share", 0.0f, x.share());
        for (int account = 0; account < 4; account++) {
            check.equal("1 receipts", 0, x.receipts(account));
        }
        for (int recipient = 0; recipient < 6; recipient++) {
            check.equal("1 inRoom", 0, x.inRoom(recipient));
            check.equal("1 marks", 0, x.marks(recipient));
            check.equal("1 waiting", 0, x.waiting(recipient));
            check.equal("1 next", MessageCentre.NONE, x.next(recipient));
            check.equal("1 room", 10, x.setRoom(recipient, 10));
            check.equal("1 mode", MessageCentre.PRESENT, x.setMode(recipient, MessageCentre.PRESENT));
        }
        check.equal("1 pass", 0, x.pass(1));
        firstMessageOfEveryAccount();
    }

    private static void firstMessageOfEveryAccount() {
        MessageCentre x = new MessageCentre();
        for (int account = 0; account < 4; account++) {
            check.equal("1 first submission", account, x.submit(account, 0, 0, 1));
            check.equal("1 the first draft has a part", 1, x.parts(account));
            check.equal("1 of one letter", 1, x.lettersIn(account, 0));
            check.equal("1 rate at first", 20, x.setRate(account, 20, 10));
        }
        x.delete(0);
        check.equal("1 no receipt wanted at first", 0, x.receipts(0));
    }

    private static void promise02DraftOneOrMoreParts() {
        MessageCentre x = new MessageCentre();
        check.equal("2 one letter", 1, x.draft(0, 1, 0, false));
        check.equal("2 160 places", 1, x.draft(0, 160, 0, false));
        check.equal("2 161 places", 2, x.draft(0, 161, 0, false));
        check.equal("2 306 places", 2, x.draft(0, 306, 0, false));
        check.equal("2 307 places", 3, x.draft(0, 307, 0, false));
        check.equal("2 500 narrow", 4, x.draft(0, 500, 0, false));
        check.equal("2 80 letters of 2 places", 1, x.draft(0, 80, 1, false));
        check.equal("2 81 letters of 2 places", 2, x.draft(0, 81, 1, false));
        check.equal("2 500 letters of 2 places", 7, x.draft(0, 500, 1, false));
        check.equal("2 every 50th, 160 places", 1, x.draft(0, 157, 50, false));
        check.equal("2 every 50th, 161 places", 2, x.draft(0, 158, 50, false));
        check.equal("2 every 2nd, 160 places", 1, x.draft(0, 107, 2, false));
        check.equal("2 every 2nd, 162 places", 2, x.draft(0, 108, 2, false));
        check.equal("2 70 wide", 1, x.draft(0, 70, 0, true));
        check.equal("2 71 wide", 2, x.draft(0, 71, 0, true));
        check.equal("2 134 wide", 2, x.draft(0, 134, 0, true));
        check.equal("2 135 wide", 3, x.draft(0, 135, 0, true));
        check.equal("2 500 wide", 8, x.draft(0, 500, 0, true));
        check.equal("2 wide letters take no 2 places", 1, x.draft(0, 70, 1, true));
        check.equal("2 another account", 1, x.draft(3, 160, 0, false));
        x.draft(3, 500, 0, true);
        x.submit(0, 0, 0, 5);
        check.equal("2 the draft of account 0 stays", 1, x.parts(0));
    }

    private static void promise02DraftWrong() {
        MessageCentre x = new MessageCentre();
        for (int account : NO_ACCOUNTS) {
            check.noIndex("2 account", () -> x.draft(account, 1, 0, false));
            check.noIndex("2 account is named first", () -> x.draft(account, 0, 51, false));
        }
        for (int letters : new int[] {0, 501, -1, MIN, MAX}) {
            check.noArgument("2 letters", () -> x.draft(0, letters, 0, false));
            check.noArgument("2 letters, wide", () -> x.draft(0, letters, 0, true));
        }
        for (int every : new int[] {-1, 51, MIN, MAX}) {
            check.noArgument("2 every", () -> x.draft(0, 200, every, false));
            check.noArgument("2 every, wide", () -> x.draft(0, 200, every, true));
        }
        x.submit(0, 0, 0, 5);
        check.equal("2 a call that throws changes nothing", 1, x.lettersIn(0, 0));
    }

    private static void promise03SetOptionsAreThoseOfLaterMessages() {
        MessageCentre x = new MessageCentre();
        x.submit(0, 0, 0, 50);
        x.setOptions(0, 7, 99, true);
        x.delete(0);
        check.equal("3 options are for later messages", 0, x.receipts(0));
        check.equal("3 with reference 99", 1, x.submit(0, 0, 0, 50));
        check.equal("3 known again", 1, x.submit(0, 0, 0, 50));
        x.setOptions(0, 7, MessageCentre.NONE, false);
        check.equal("3 no reference", 2, x.submit(0, 0, 0, 50));
        check.equal("3 same kind", MessageCentre.DELETED, x.state(1));
        check.equal("3 message 1 wanted a receipt", 1, x.receipts(0));
        x.delete(2);
        check.equal("3 message 2 did not", 1, x.receipts(0));
        x.setOptions(0, 0, 0, true);
        check.equal("3 reference 0", 3, x.submit(0, 0, 0, 50));
        check.equal("3 reference 0 is one too", 3, x.submit(0, 0, 0, 50));
        check.equal("3 other accounts have their own", 4, x.submit(1, 0, 0, 50));
        check.equal("3 with no reference", 5, x.submit(1, 0, 0, 50));
    }

    private static void promise03SetOptionsWrong() {
        MessageCentre x = new MessageCentre();
        x.setOptions(0, 1, 5, true);
        for (int account : NO_ACCOUNTS) {
            check.noIndex("3 account", () -> options(x, account, 0, 0));
            check.noIndex("3 account is named first", () -> options(x, account, 8, 100));
        }
        for (int kind : new int[] {-1, 8, MIN, MAX}) {
            check.noArgument("3 kind", () -> options(x, 0, kind, 7));
        }
        for (int reference : new int[] {-2, 100, MIN, MAX}) {
            check.noArgument("3 reference", () -> options(x, 0, 0, reference));
        }
        x.submit(0, 0, 0, 50);
        check.equal("3 the reference is as it was", 0, x.submit(0, 0, 0, 50));
        x.delete(0);
        check.equal("3 receipts are wanted as before", 1, x.receipts(0));
    }

    private static long options(MessageCentre x, int account, int kind, int reference) {
        x.setOptions(account, kind, reference, false);
        return 0;
    }

    private static void promise04SetRate() {
        MessageCentre x = new MessageCentre();
        check.equal("4 at first", 20, x.setRate(1, 40, 200));
        check.equal("4 then", 40, x.setRate(1, 0, 1));
        check.equal("4 nothing allowed", 0, x.setRate(1, 2, 3));
        check.equal("4 another account", 20, x.setRate(2, 1, 1));
        x.setRate(1, 0, 200);
        check.noState("4 rate 0", () -> x.submit(1, 0, 0, 5));
        check.equal("4 only of that account", 0, x.submit(2, 0, 0, 5));
    }

    private static void promise04SetRateWrong() {
        MessageCentre x = new MessageCentre();
        for (int account : NO_ACCOUNTS) {
            check.noIndex("4 account", () -> x.setRate(account, 1, 1));
            check.noIndex("4 account is named first", () -> x.setRate(account, 41, 0));
        }
        for (int most : new int[] {-1, 41, MIN, MAX}) {
            check.noArgument("4 most", () -> x.setRate(0, most, 1));
        }
        for (int window : new int[] {0, 201, -1, MIN, MAX}) {
            check.noArgument("4 window", () -> x.setRate(0, 0, window));
        }
        check.equal("4 nothing changed", 20, x.setRate(0, 20, 10));
    }

    private static void promise05SubmitNumbers() {
        MessageCentre x = new MessageCentre();
        check.equal("5 first", 0, x.submit(0, 0, 0, 1));
        check.equal("5 second", 1, x.submit(3, 5, 3, 500));
        check.equal("5 waits", MessageCentre.WAITING, x.state(1));
        x.pass(3);
        check.equal("5 third", 2, x.submit(3, 5, 3, 500));
        check.equal("5 due when submitted", 3, x.due(2));
    }

    private static void promise05SubmitWrong() {
        MessageCentre x = new MessageCentre();
        x.setRate(0, 0, 1);
        for (int account : NO_ACCOUNTS) {
            check.noIndex("5 account", () -> x.submit(account, 0, 4, 0));
        }
        for (int recipient : NO_RECIPIENTS) {
            check.noIndex("5 recipient", () -> x.submit(0, recipient, 4, 0));
        }
        for (int priority : new int[] {-1, 4, MIN, MAX}) {
            check.noArgument("5 priority, before throttled", () -> x.submit(0, 0, priority, 1));
            check.noArgument("5 priority", () -> x.submit(1, 0, priority, 1));
        }
        for (int validity : new int[] {0, 501, -1, MIN, MAX}) {
            check.noArgument("5 validity, before throttled", () -> x.submit(0, 0, 0, validity));
            check.noArgument("5 validity", () -> x.submit(1, 0, 0, validity));
        }
        x.setOptions(1, 0, 4, false);
        check.equal("5 first", 0, x.submit(1, 0, 0, 9));
        check.noArgument("5 known again, out of range", () -> x.submit(1, 0, 4, 9));
        check.equal("5 nothing else there", 1, x.messages());
    }

    private static void promise05SubmitKnownAgain() {
        MessageCentre x = new MessageCentre();
        x.setOptions(0, 3, 5, true);
        check.equal("5 first", 0, x.submit(0, 0, 0, 1));
        x.pass(29);
        check.equal("5 29 ticks ago, delivered", 0, x.submit(0, 0, 3, 9));
        check.equal("5 to another recipient", 1, x.submit(0, 1, 0, 9));
        x.setOptions(1, 3, 5, true);
        check.equal("5 from another account", 2, x.submit(1, 0, 0, 9));
        x.setOptions(0, 3, 6, true);
        check.equal("5 with another reference", 3, x.submit(0, 0, 0, 9));
        x.setOptions(0, 3, 5, true);
        x.pass(1);
        check.equal("5 30 ticks ago", 4, x.submit(0, 0, 0, 9));
        check.equal("5 known again: nothing changes", 4, x.submit(0, 0, 0, 9));
        check.equal("5 five messages", 5, x.messages());
        check.equal("5 waiting still", MessageCentre.WAITING, x.state(4));
        x.setRate(0, 0, 200);
        check.equal("5 known again, though throttled", 4, x.submit(0, 0, 0, 9));
    }

    private static void promise05SubmitKnownAgainOfSeveral() {
        MessageCentre x = new MessageCentre();
        x.setMode(0, MessageCentre.BUSY);
        x.setOptions(0, 0, 5, false);
        x.submit(0, 0, 0, 500);
        x.pass(30);
        check.equal("5 anew", 1, x.submit(0, 0, 0, 500));
        x.delete(1);
        x.pass(29);
        check.equal("5 the latest one, deleted", 1, x.submit(0, 0, 0, 500));
        x.pass(1);
        check.equal("5 anew again", 2, x.submit(0, 0, 0, 500));
    }

    private static void promise05SubmitThrottled() {
        MessageCentre x = new MessageCentre();
        x.setRate(0, 2, 3);
        x.setOptions(0, 0, 1, false);
        x.submit(0, 0, 0, 9);
        check.equal("5 known again is no submission", 0, x.submit(0, 0, 0, 9));
        x.pass(1);
        check.equal("5 another recipient counts too", 1, x.submit(0, 1, 0, 9));
        check.noState("5 throttled", () -> x.submit(0, 2, 0, 9));
        check.equal("5 another account is not", 2, x.submit(1, 2, 0, 9));
        x.pass(1);
        x.delete(x.submit(2, 0, 0, 9));
        check.noState("5 2 ticks ago", () -> x.submit(0, 2, 0, 9));
        x.pass(1);
        check.equal("5 3 ticks ago", 4, x.submit(0, 2, 0, 9));
        check.noState("5 throttled again", () -> x.submit(0, 3, 0, 9));
        x.setRate(0, 2, 1);
        check.equal("5 only those of this tick", 5, x.submit(0, 3, 0, 9));
        x.setRate(0, 1, 200);
        check.noState("5 more than are allowed", () -> x.submit(0, 4, 0, 9));
        throttledAtFirst();
    }

    private static void throttledAtFirst() {
        MessageCentre x = new MessageCentre();
        for (int i = 0; i < 20; i++) {
            check.equal("5 twenty", i, x.submit(0, 0, 0, 500));
        }
        check.noState("5 not twenty-one", () -> x.submit(0, 0, 0, 500));
        x.pass(9);
        check.noState("5 9 ticks later", () -> x.submit(0, 0, 0, 500));
        x.pass(1);
        check.equal("5 10 ticks later", 20, x.submit(0, 0, 0, 500));
    }

    private static void promise05SubmitForty() {
        MessageCentre x = new MessageCentre();
        for (int i = 0; i < 40; i++) {
            x.setOptions(i % 4, 2, i / 4, true);
            check.equal("5 forty", i, x.submit(i % 4, i % 6, 0, 500));
        }
        check.noState("5 not forty-one", () -> x.submit(0, 1, 0, 500));
        check.equal("5 known again of forty", 39, x.submit(3, 39 % 6, 0, 500));
        x.setOptions(3, 2, MessageCentre.NONE, true);
        int waiting = x.waiting(3);
        check.noState("5 not forty-one", () -> x.submit(3, 3, 0, 500));
        check.equal("5 a call that throws deletes nothing", waiting, x.waiting(3));
        check.equal("5 forty", 40, x.messages());
    }

    private static void promise05SubmitReplaces() {
        MessageCentre x = new MessageCentre();
        x.setMode(0, MessageCentre.BUSY);
        x.setOptions(0, 1, MessageCentre.NONE, true);
        x.submit(0, 0, 0, 500);
        x.setOptions(0, 2, MessageCentre.NONE, true);
        x.submit(0, 0, 0, 500);
        x.submit(0, 1, 0, 500);
        x.setOptions(1, 1, MessageCentre.NONE, true);
        x.submit(1, 0, 0, 500);
        x.setOptions(0, 1, MessageCentre.NONE, true);
        check.equal("5 replaces", 4, x.submit(0, 0, 0, 500));
        check.equal("5 same kind is deleted", MessageCentre.DELETED, x.state(0));
        check.equal("5 another kind is not", MessageCentre.WAITING, x.state(1));
        check.equal("5 another recipient's is not", MessageCentre.WAITING, x.state(2));
        check.equal("5 another account's is not", MessageCentre.WAITING, x.state(3));
        check.equal("5 it waits itself", MessageCentre.WAITING, x.state(4));
        check.equal("5 a receipt for it", 3, x.takeReceipt(0));
        kindZeroReplacesNothing();
        whatCameInPartIsNotReplaced();
    }

    private static void kindZeroReplacesNothing() {
        MessageCentre x = new MessageCentre();
        x.submit(0, 0, 0, 500);
        x.submit(0, 0, 0, 500);
        check.equal("5 kind 0 replaces nothing", 2, x.waiting(0));
    }

    private static void whatCameInPartIsNotReplaced() {
        MessageCentre x = Given.parts(3);
        x.setOptions(0, 1, MessageCentre.NONE, true);
        x.submit(0, 0, 1, 500);
        x.pass(1);
        check.equal("5 message 1", 1, x.submit(0, 0, 0, 500));
        check.equal("5 came in part", MessageCentre.WAITING, x.state(0));
        check.equal("5 message 2", 2, x.submit(0, 0, 0, 500));
        check.equal("5 came in part still", MessageCentre.WAITING, x.state(0));
        check.equal("5 replaced", MessageCentre.DELETED, x.state(1));
        x.pass(2);
        check.equal("5 delivered", MessageCentre.DELIVERED, x.state(0));
        x.submit(0, 0, 0, 500);
        check.equal("5 what does not wait stays", MessageCentre.DELIVERED, x.state(0));
        check.equal("5 replaced as well", MessageCentre.DELETED, x.state(2));
    }

    private static void promise06Delete() {
        MessageCentre x = Given.parts(3);
        x.submit(0, 0, 0, 500);
        x.submit(0, 1, 0, 500);
        check.equal("6 no part yet", 0, x.delete(1));
        x.pass(2);
        check.equal("6 two parts", 2, x.delete(0));
        check.equal("6 deleted", MessageCentre.DELETED, x.state(0));
        check.equal("6 the parts stay in the room", 2, x.inRoom(0));
        check.equal("6 none waits", 0, x.waiting(0));
        check.noState("6 deleted before", () -> x.delete(0));
        check.equal("6 no attempt any more", 0, x.pass(5));
        for (int message : new int[] {-1, 2, 3, 40, MIN, MAX}) {
            check.noIndex("6 message", () -> x.delete(message));
        }
    }

    private static void promise07Messages() {
        MessageCentre x = new MessageCentre();
        x.submit(0, 0, 0, 1);
        x.submit(1, 0, 0, 1);
        check.equal("7 two", 2, x.messages());
        x.delete(0);
        x.pass(1);
        check.equal("7 ended ones are there", 2, x.messages());
    }

    private static void promise08State() {
        MessageCentre x = Given.allStates();
        for (int message = 0; message < 5; message++) {
            check.equal("8 state", message, x.state(message));
        }
        for (int message : new int[] {-1, 5, 40, MIN, MAX}) {
            check.noIndex("8 message", () -> x.state(message));
        }
    }

    private static void promise09StateByLog() {
        MessageCentre x = Given.allStates();
        for (int message = 0; message < 5; message++) {
            check.equal("9 state by log", message, x.stateByLog(message));
        }
        for (int message : new int[] {-1, 5, 40, MIN, MAX}) {
            check.noIndex("9 message", () -> x.stateByLog(message));
        }
        longLog();
    }

    private static void longLog() {
        MessageCentre x = Given.parts(3);
        x.submit(0, 0, 0, 500);
        x.pass(1);
        check.equal("9 came in part", MessageCentre.WAITING, x.stateByLog(0));
        for (int i = 0; i < 100; i++) {
            x.setMode(0, MessageCentre.ABSENT);
            x.pass(1);
            x.setMode(0, MessageCentre.PRESENT);
        }
        check.equal("9 many attempts", 101, x.attempts(0));
        x.pass(2);
        check.equal("9 delivered in the end", MessageCentre.DELIVERED, x.stateByLog(0));
        attemptInEveryTick();
    }

    private static void attemptInEveryTick() {
        MessageCentre x = new MessageCentre();
        x.submit(0, 0, 0, 7);
        for (int i = 0; i < 7; i++) {
            x.setMode(0, MessageCentre.ABSENT);
            x.pass(1);
            x.setMode(0, MessageCentre.PRESENT);
        }
        check.equal("9 as many attempts as there can be", 6, x.attempts(0));
        check.equal("9 expired", MessageCentre.EXPIRED, x.stateByLog(0));
    }

    private static void promise10Parts() {
        MessageCentre x = Given.parts(8);
        x.submit(0, 0, 0, 500);
        x.draft(0, 1, 0, false);
        x.submit(0, 0, 0, 500);
        x.pass(1);
        check.equal("10 eight, of which one came", 8, x.parts(0));
        check.equal("10 one", 1, x.parts(1));
        for (int message : new int[] {-1, 2, 40, MIN, MAX}) {
            check.noIndex("10 message", () -> x.parts(message));
        }
    }

    private static void checkLetters(int letters, int every, boolean wide, int[] want) {
        MessageCentre x = new MessageCentre();
        check.equal("11 parts of the draft", want.length, x.draft(2, letters, every, wide));
        x.submit(2, 0, 0, 5);
        check.equal("11 parts", want.length, x.parts(0));
        for (int part = 0; part < want.length; part++) {
            check.equal("11 letters in part " + part + " of " + letters, want[part], x.lettersIn(0, part));
        }
        for (int part : new int[] {-1, want.length, 8, MIN, MAX}) {
            check.noIndex("11 part", () -> x.lettersIn(0, part));
        }
    }

    private static void promise11LettersIn() {
        checkLetters(1, 0, false, new int[] {1});
        checkLetters(160, 0, false, new int[] {160});
        checkLetters(161, 0, false, new int[] {153, 8});
        checkLetters(306, 0, false, new int[] {153, 153});
        checkLetters(500, 0, false, new int[] {153, 153, 153, 41});
        checkLetters(81, 1, false, new int[] {76, 5});
        checkLetters(500, 1, false, new int[] {76, 76, 76, 76, 76, 76, 44});
        // Places 1 2 1 2 ..: 102 letters take 153; the next part begins at an odd letter again.
        checkLetters(108, 2, false, new int[] {102, 6});
        checkLetters(500, 2, false, new int[] {102, 102, 102, 102, 92});
        // Letter 153 of every 51st does not exist; of every 50th, letter 150 is the third of 2 places.
        checkLetters(158, 50, false, new int[] {150, 8});
        // Letter 115 begins the second part with 1 place; a letter of 2 places is not divided.
        checkLetters(200, 3, false, new int[] {115, 85});
        checkLetters(400, 7, false, new int[] {134, 134, 132});
        checkLetters(70, 0, true, new int[] {70});
        checkLetters(71, 0, true, new int[] {67, 4});
        checkLetters(134, 5, true, new int[] {67, 67});
        checkLetters(500, 0, true, new int[] {67, 67, 67, 67, 67, 67, 67, 31});
        MessageCentre x = new MessageCentre();
        for (int message : new int[] {-1, 0, 40, MIN, MAX}) {
            check.noIndex("11 message", () -> x.lettersIn(message, 0));
        }
    }

    private static void promise12Delivered() {
        MessageCentre x = Given.parts(3);
        x.submit(0, 0, 0, 500);
        for (int parts = 0; parts <= 3; parts++) {
            check.equal("12 parts", parts, x.delivered(0));
            x.pass(1);
        }
        check.equal("12 no more than there are", 3, x.delivered(0));
        for (int message : new int[] {-1, 1, 40, MIN, MAX}) {
            check.noIndex("12 message", () -> x.delivered(message));
        }
    }

    private static void promise13Attempts() {
        MessageCentre x = Given.parts(2);
        x.submit(0, 0, 0, 500);
        check.equal("13 none yet", 0, x.attempts(0));
        x.setMode(0, MessageCentre.BUSY);
        x.pass(3);
        check.equal("13 two that failed", 2, x.attempts(0));
        x.setMode(0, MessageCentre.PRESENT);
        x.pass(4);
        check.equal("13 one that brought a part", 3, x.attempts(0));
        x.setMode(0, MessageCentre.BARRED);
        x.pass(1);
        check.equal("13 one that was refused", 4, x.attempts(0));
        x.pass(100);
        check.equal("13 no more", 4, x.attempts(0));
        for (int message : new int[] {-1, 1, 40, MIN, MAX}) {
            check.noIndex("13 message", () -> x.attempts(message));
        }
    }

    private static void promise14Due() {
        MessageCentre x = Given.parts(2);
        x.pass(4);
        x.submit(0, 0, 0, 500);
        check.equal("14 when submitted", 4, x.due(0));
        x.pass(1);
        check.equal("14 when a part came", 5, x.due(0));
        x.pass(1);
        check.noState("14 delivered", () -> x.due(0));
        x.submit(0, 0, 0, 500);
        x.delete(1);
        check.noState("14 deleted", () -> x.due(1));
        for (int message : new int[] {-1, 2, 40, MIN, MAX}) {
            check.noIndex("14 message", () -> x.due(message));
        }
    }

    /** How long after each of six failures a message is due again. */
    private static void checkDelays(String cause, int mode, int room, int[] want) {
        MessageCentre x = new MessageCentre();
        x.setMode(0, mode);
        x.setRoom(0, room);
        x.submit(0, 0, 0, 500);
        x.pass(1);
        for (int delay : want) {
            check.equal("14 delay for " + cause, x.now() + delay, x.due(0));
            int tries = x.attempts(0);
            if (delay > 1) {
                x.pass(delay - 1);
            }
            check.equal("14 no attempt before", tries, x.attempts(0));
            x.pass(1);
            check.equal("14 the next attempt", tries + 1, x.attempts(0));
        }
    }

    private static void promise14DueAfterFailures() {
        checkDelays("BUSY", MessageCentre.BUSY, 10, new int[] {2, 4, 8, 16, 16, 16});
        checkDelays("ABSENT", MessageCentre.ABSENT, 10, new int[] {5, 10, 20, 40, 40, 40});
        checkDelays("FULL", MessageCentre.PRESENT, 0, new int[] {10, 20, 40, 80, 80, 80});
        checkDelays("BUSY ahead of FULL", MessageCentre.BUSY, 0, new int[] {2, 4});
        checkDelays("ABSENT ahead of FULL", MessageCentre.ABSENT, 0, new int[] {5, 10});
    }

    private static void promise14FailuresForgotten() {
        MessageCentre x = Given.parts(3);
        x.submit(0, 0, 0, 500);
        x.setMode(0, MessageCentre.BUSY);
        x.pass(3);
        check.equal("14 two failures", 7, x.due(0));
        x.setMode(0, MessageCentre.ABSENT);
        x.pass(4);
        check.equal("14 each cause has its own number", 12, x.due(0));
        x.setMode(0, MessageCentre.BUSY);
        x.pass(5);
        check.equal("14 the third for BUSY", 20, x.due(0));
        x.setMode(0, MessageCentre.PRESENT);
        check.equal("14 woken up", 12, x.due(0));
        x.setMode(0, MessageCentre.BUSY);
        x.pass(1);
        check.equal("14 a wake-up forgets nothing", 13 + 16, x.due(0));
        x.setMode(0, MessageCentre.PRESENT);
        check.equal("14 no mark, no wake-up", 29, x.due(0));
        x.pass(16);
        check.equal("14 a part came", 29, x.due(0));
        x.setMode(0, MessageCentre.BUSY);
        x.pass(1);
        check.equal("14 failures for BUSY are forgotten", 32, x.due(0));
        x.setMode(0, MessageCentre.ABSENT);
        x.pass(2);
        check.equal("14 those for ABSENT as well", 37, x.due(0));
        x.setMode(0, MessageCentre.BUSY);
        x.pass(5);
        check.equal("14 the second one again", 41, x.due(0));
        failuresForAbsentAndFull();
    }

    private static void failuresForAbsentAndFull() {
        MessageCentre x = new MessageCentre();
        x.setRoom(0, 0);
        x.submit(0, 0, 0, 500);
        x.pass(1);
        check.equal("14 the first for FULL", 11, x.due(0));
        x.setMode(0, MessageCentre.ABSENT);
        x.pass(10);
        check.equal("14 the first for ABSENT", 16, x.due(0));
        x.pass(5);
        check.equal("14 the second for ABSENT", 26, x.due(0));
        x.setMode(0, MessageCentre.PRESENT);
        x.pass(1);
        check.equal("14 the second for FULL", 37, x.due(0));
    }

    private static void promise15SetModeWakes() {
        MessageCentre x = new MessageCentre();
        check.equal("15 present at first", MessageCentre.PRESENT, x.setMode(0, MessageCentre.ABSENT));
        x.submit(0, 0, 0, 500);
        x.submit(0, 0, 0, 500);
        x.submit(0, 1, 0, 500);
        x.setMode(1, MessageCentre.BUSY);
        x.pass(1);
        check.equal("15 message 0 failed", 6, x.due(0));
        x.pass(1);
        check.equal("15 message 1 failed", 7, x.due(1));
        check.equal("15 was absent", MessageCentre.ABSENT, x.setMode(0, MessageCentre.BUSY));
        check.equal("15 busy wakes nothing", 6, x.due(0));
        check.equal("15 the mark stays", 1, x.marks(0));
        check.equal("15 was busy", MessageCentre.BUSY, x.setMode(0, MessageCentre.BARRED));
        check.equal("15 barred wakes nothing", 6, x.due(0));
        check.equal("15 was barred", MessageCentre.BARRED, x.setMode(0, MessageCentre.PRESENT));
        check.equal("15 message 0 is woken", 2, x.due(0));
        check.equal("15 message 1 is woken", 2, x.due(1));
        check.equal("15 that of another recipient is not", 3, x.due(2));
        check.equal("15 the mark went away", 0, x.marks(0));
        check.equal("15 was present", MessageCentre.PRESENT, x.setMode(0, MessageCentre.PRESENT));
        wakingLeavesWhatIsDue();
    }

    private static void wakingLeavesWhatIsDue() {
        MessageCentre x = new MessageCentre();
        x.setMode(0, MessageCentre.ABSENT);
        x.submit(0, 0, 1, 500);
        x.submit(0, 0, 0, 500);
        x.pass(1);
        x.setMode(0, MessageCentre.PRESENT);
        check.equal("15 due later", 1, x.due(0));
        check.equal("15 due already", 0, x.due(1));
    }

    private static void promise15SetModeWrong() {
        MessageCentre x = new MessageCentre();
        for (int recipient : NO_RECIPIENTS) {
            check.noIndex("15 recipient", () -> x.setMode(recipient, 0));
            check.noIndex("15 recipient is named first", () -> x.setMode(recipient, 4));
        }
        for (int mode : new int[] {-1, 4, MIN, MAX}) {
            check.noArgument("15 mode", () -> x.setMode(0, mode));
        }
        check.equal("15 nothing changed", 0, x.setMode(0, 0));
    }

    private static void promise16SetRoom() {
        MessageCentre x = Given.parts(4);
        check.equal("16 at first", 10, x.setRoom(0, 50));
        check.equal("16 then", 50, x.setRoom(0, 0));
        check.equal("16 none", 0, x.setRoom(0, 4));
        x.submit(0, 0, 0, 500);
        x.pass(3);
        check.equal("16 smaller than what is in it", 4, x.setRoom(0, 1));
        check.equal("16 the parts stay", 3, x.inRoom(0));
        check.equal("16 no part comes", 0, x.pass(1));
        check.equal("16 other rooms stay", 10, x.setRoom(5, 3));
        for (int recipient : NO_RECIPIENTS) {
            check.noIndex("16 recipient", () -> x.setRoom(recipient, 1));
            check.noIndex("16 recipient is named first", () -> x.setRoom(recipient, 51));
        }
        for (int parts : new int[] {-1, 51, MIN, MAX}) {
            check.noArgument("16 parts", () -> x.setRoom(5, parts));
        }
        check.equal("16 nothing changed", 3, x.setRoom(5, 3));
    }

    private static void promise16SetRoomWakes() {
        MessageCentre x = Given.parts(4);
        x.setRoom(0, 2);
        x.submit(0, 0, 0, 500);
        x.pass(3);
        check.equal("16 full", 13, x.due(0));
        x.setRoom(0, 2);
        check.equal("16 still full", 13, x.due(0));
        check.equal("16 the mark stays", 2, x.marks(0));
        x.setRoom(0, 3);
        check.equal("16 has room again", 3, x.due(0));
        check.equal("16 the mark went away", 0, x.marks(0));
        x.setMode(0, MessageCentre.BUSY);
        x.pass(1);
        check.equal("16 busy", 6, x.due(0));
        x.setRoom(0, 50);
        check.equal("16 no mark, no wake-up", 6, x.due(0));
    }

    private static void promise17Read() {
        MessageCentre x = Given.parts(5);
        x.submit(0, 0, 0, 500);
        x.pass(5);
        check.equal("17 one read", 4, x.read(0, 1));
        check.equal("17 two read", 2, x.read(0, 2));
        check.equal("17 more than there are", 0, x.read(0, 50));
        check.equal("17 of none", 0, x.read(0, 1));
        check.equal("17 none there", 0, x.inRoom(0));
        check.equal("17 the message stays delivered", MessageCentre.DELIVERED, x.state(0));
        for (int recipient : NO_RECIPIENTS) {
            check.noIndex("17 recipient", () -> x.read(recipient, 1));
            check.noIndex("17 recipient is named first", () -> x.read(recipient, 0));
        }
        for (int parts : new int[] {0, 51, -1, MIN, MAX}) {
            check.noArgument("17 parts", () -> x.read(0, parts));
        }
    }

    private static void promise17ReadWakes() {
        MessageCentre x = Given.parts(5);
        x.setRoom(0, 3);
        x.submit(0, 0, 0, 500);
        x.pass(3);
        x.setRoom(0, 1);
        x.pass(1);
        check.equal("17 full", 14, x.due(0));
        x.pass(2);
        check.equal("17 as many as its room", 1, x.read(0, 2));
        check.equal("17 still full", 14, x.due(0));
        check.equal("17 marked still", 2, x.marks(0));
        check.equal("17 fewer", 0, x.read(0, 1));
        check.equal("17 woken up", 6, x.due(0));
        check.equal("17 the mark went away", 0, x.marks(0));
        check.equal("17 a part comes", 1, x.pass(1));
        wokenWhileNotPresent();
    }

    private static void wokenWhileNotPresent() {
        MessageCentre x = new MessageCentre();
        x.setRoom(0, 0);
        x.submit(0, 0, 0, 500);
        x.pass(1);
        x.setMode(0, MessageCentre.ABSENT);
        x.pass(10);
        check.equal("17 marked for both", 3, x.marks(0));
        x.setRoom(0, 1);
        check.equal("17 only that mark went away", 1, x.marks(0));
        check.equal("17 woken up, though absent", 11, x.due(0));
        x.setMode(0, MessageCentre.PRESENT);
        check.equal("17 no mark", 0, x.marks(0));
    }

    private static void promise18InRoom() {
        MessageCentre x = Given.parts(3);
        x.submit(0, 2, 0, 500);
        for (int parts = 0; parts < 4; parts++) {
            check.equal("18 parts", parts, x.inRoom(2));
            x.pass(1);
        }
        check.equal("18 another room", 0, x.inRoom(1));
        for (int recipient : NO_RECIPIENTS) {
            check.noIndex("18 recipient", () -> x.inRoom(recipient));
        }
        fullAtTen();
    }

    private static void fullAtTen() {
        MessageCentre x = Given.parts(8);
        x.submit(0, 0, 0, 500);
        x.submit(0, 0, 0, 500);
        check.equal("18 ten parts have room at first", 10, x.pass(20));
        check.equal("18 ten", 10, x.inRoom(0));
        check.equal("18 full", 2, x.marks(0));
    }

    private static void promise19Marks() {
        MessageCentre x = new MessageCentre();
        x.setMode(0, MessageCentre.ABSENT);
        check.equal("19 no attempt, no mark", 0, x.marks(0));
        x.submit(0, 0, 0, 500);
        x.pass(1);
        check.equal("19 absent", 1, x.marks(0));
        x.setMode(1, MessageCentre.BUSY);
        x.submit(0, 1, 0, 500);
        x.setMode(2, MessageCentre.BARRED);
        x.submit(0, 2, 0, 500);
        x.setRoom(3, 0);
        x.submit(0, 3, 0, 500);
        x.pass(1);
        check.equal("19 busy leaves no mark", 0, x.marks(1));
        check.equal("19 barred leaves no mark", 0, x.marks(2));
        check.equal("19 full", 2, x.marks(3));
        x.setMode(3, MessageCentre.ABSENT);
        x.pass(10);
        check.equal("19 both", 3, x.marks(3));
        x.setMode(3, MessageCentre.PRESENT);
        check.equal("19 present, but full", 2, x.marks(3));
        for (int recipient : NO_RECIPIENTS) {
            check.noIndex("19 recipient", () -> x.marks(recipient));
        }
    }

    private static void promise20Waiting() {
        MessageCentre x = new MessageCentre();
        x.setMode(0, MessageCentre.BUSY);
        x.submit(0, 0, 0, 500);
        x.submit(1, 0, 0, 500);
        x.submit(2, 0, 0, 3);
        x.submit(2, 1, 0, 3);
        check.equal("20 three", 3, x.waiting(0));
        check.equal("20 one of another", 1, x.waiting(1));
        x.delete(1);
        check.equal("20 deleted", 2, x.waiting(0));
        x.pass(3);
        check.equal("20 expired", 1, x.waiting(0));
        check.equal("20 delivered", 0, x.waiting(1));
        for (int recipient : NO_RECIPIENTS) {
            check.noIndex("20 recipient", () -> x.waiting(recipient));
        }
    }

    private static void promise21Next() {
        MessageCentre x = new MessageCentre();
        x.setMode(0, MessageCentre.BUSY);
        x.submit(0, 0, 1, 500);
        x.submit(0, 0, 1, 500);
        check.equal("21 the lowest number", 0, x.next(0));
        x.pass(1);
        check.equal("21 the earliest", 1, x.next(0));
        x.submit(0, 0, 2, 500);
        check.equal("21 the greatest priority", 2, x.next(0));
        x.pass(1);
        check.equal("21 also if it is due later", 2, x.next(0));
        x.delete(2);
        check.equal("21 without it", 1, x.next(0));
        x.submit(0, 0, 0, 500);
        check.equal("21 a smaller priority", 1, x.next(0));
        check.equal("21 none", MessageCentre.NONE, x.next(1));
        for (int recipient : NO_RECIPIENTS) {
            check.noIndex("21 recipient", () -> x.next(recipient));
        }
    }

    private static void promise22PassOrders() {
        MessageCentre x = Given.parts(2);
        x.submit(0, 0, 0, 500);
        x.submit(0, 0, 3, 500);
        x.submit(0, 0, 3, 500);
        x.submit(0, 1, 0, 500);
        check.equal("22 one part for each recipient", 2, x.pass(1));
        check.equal("22 greatest priority, lowest number", 1, x.delivered(1));
        check.equal("22 a part of another", 1, x.delivered(3));
        check.equal("22 two more", 2, x.pass(1));
        check.equal("22 that which is due the earliest", 1, x.delivered(2));
        check.equal("22 not due at tick 1 before 0", 1, x.delivered(1));
        check.equal("22 all of them", 4, x.pass(4));
        check.equal("22 nothing left", 0, x.pass(100));
        onlyWhatIsDue();
        refusedAndFailedPartsDoNotCount();
    }

    private static void onlyWhatIsDue() {
        MessageCentre x = new MessageCentre();
        x.setMode(0, MessageCentre.BUSY);
        x.submit(0, 0, 3, 500);
        x.pass(1);
        x.submit(0, 0, 0, 500);
        x.setMode(0, MessageCentre.PRESENT);
        x.pass(1);
        check.equal("22 what is not due lets others go first", MessageCentre.DELIVERED, x.state(1));
        check.equal("22 it is due at tick 3", MessageCentre.WAITING, x.state(0));
        check.equal("22 at tick 3", 1, x.pass(1));
    }

    private static void refusedAndFailedPartsDoNotCount() {
        MessageCentre x = new MessageCentre();
        x.setMode(0, MessageCentre.BARRED);
        x.submit(0, 0, 0, 500);
        x.submit(0, 0, 0, 500);
        check.equal("22 refused", 0, x.pass(1));
        check.equal("22 one attempt in a tick", MessageCentre.WAITING, x.state(1));
        x.setMode(0, MessageCentre.BUSY);
        check.equal("22 failed", 0, x.pass(1));
        x.setMode(0, MessageCentre.PRESENT);
        check.equal("22 in a room", 1, x.pass(2));
        check.equal("22 only that part", 1, x.inRoom(0));
    }

    private static void promise22PassExpiresFirst() {
        MessageCentre x = new MessageCentre();
        x.submit(0, 0, 0, 1);
        check.equal("22 expires ahead of the attempt", 0, x.pass(1));
        check.equal("22 expired", MessageCentre.EXPIRED, x.state(0));
        check.equal("22 no attempt", 0, x.attempts(0));
        x.submit(0, 0, 0, 2);
        check.equal("22 a tick before", 1, x.pass(1));
        check.equal("22 delivered", MessageCentre.DELIVERED, x.state(1));
        x.setMode(0, MessageCentre.ABSENT);
        x.submit(0, 0, 0, 500);
        x.pass(100);
        x.pass(100);
        x.pass(100);
        x.pass(100);
        x.pass(99);
        check.equal("22 499 ticks", MessageCentre.WAITING, x.state(2));
        x.pass(1);
        check.equal("22 500 ticks", MessageCentre.EXPIRED, x.state(2));
        x.setMode(0, MessageCentre.PRESENT);
        check.equal("22 expired for good", 0, x.pass(10));
    }

    private static void promise22PassWrong() {
        MessageCentre x = new MessageCentre();
        for (int ticks : new int[] {0, -1, 101, MIN, MAX}) {
            check.noArgument("22 ticks", () -> x.pass(ticks));
        }
        check.equal("22 nothing changed", 0, x.now());
    }

    private static void promise23Now() {
        MessageCentre x = new MessageCentre();
        x.pass(1);
        check.equal("23 one", 1, x.now());
        x.pass(100);
        check.equal("23 a hundred more", 101, x.now());
        x.submit(0, 0, 0, 5);
        x.setMode(0, MessageCentre.ABSENT);
        check.equal("23 only pass lets ticks pass", 101, x.now());
    }

    private static void promise24Receipts() {
        MessageCentre x = new MessageCentre();
        x.setOptions(0, 0, MessageCentre.NONE, true);
        x.submit(0, 0, 0, 500);
        x.submit(0, 1, 0, 500);
        x.submit(1, 2, 0, 500);
        check.equal("24 they wait", 0, x.receipts(0));
        x.pass(1);
        check.equal("24 two", 2, x.receipts(0));
        check.equal("24 none wanted", 0, x.receipts(1));
        x.takeReceipt(0);
        check.equal("24 one taken", 1, x.receipts(0));
        for (int account : NO_ACCOUNTS) {
            check.noIndex("24 account", () -> x.receipts(account));
        }
    }

    private static void promise25TakeReceipt() {
        MessageCentre x = new MessageCentre();
        x.setOptions(0, 0, MessageCentre.NONE, true);
        x.setMode(1, MessageCentre.BARRED);
        x.setMode(2, MessageCentre.ABSENT);
        x.submit(0, 2, 0, 4);
        x.submit(0, 1, 0, 4);
        x.submit(0, 0, 0, 4);
        x.submit(0, 0, 0, 4);
        x.delete(3);
        x.pass(4);
        check.equal("25 deleted", 10 * 3 + MessageCentre.DELETED, x.takeReceipt(0));
        check.equal("25 delivered", 10 * 2 + MessageCentre.DELIVERED, x.takeReceipt(0));
        check.equal("25 refused", 10 * 1 + MessageCentre.REFUSED, x.takeReceipt(0));
        check.equal("25 expired", 10 * 0 + MessageCentre.EXPIRED, x.takeReceipt(0));
        check.noState("25 no more", () -> x.takeReceipt(0));
        check.noState("25 another account", () -> x.takeReceipt(3));
        for (int account : NO_ACCOUNTS) {
            check.noIndex("25 account", () -> x.takeReceipt(account));
        }
    }

    private static void promise25OrderOfReceipts() {
        MessageCentre x = new MessageCentre();
        x.setOptions(0, 5, MessageCentre.NONE, true);
        for (int recipient = 5; recipient >= 0; recipient--) {
            x.submit(0, recipient, 0, recipient < 3 ? 1 : 9);
        }
        x.pass(1);
        int[] want = {32, 42, 52, 21, 11, 1};
        for (int receipt : want) {
            check.equal("25 expired by numbers, then by recipients", receipt, x.takeReceipt(0));
        }
        check.equal("25 all taken", 0, x.receipts(0));
    }

    private static void promise26Share() {
        MessageCentre x = Given.parts(2);
        x.submit(0, 0, 0, 500);
        check.equal("26 all wait", 0.0f, x.share());
        x.pass(1);
        check.equal("26 in part is not delivered", 0.0f, x.share());
        x.pass(1);
        check.equal("26 one of one", 1.0f, x.share());
        x.submit(0, 0, 0, 500);
        x.submit(0, 0, 0, 500);
        x.submit(0, 0, 0, 500);
        x.delete(1);
        check.equal("26 one of two", 0.5f, x.share());
        x.delete(2);
        check.equal("26 one of three", 1.0f / 3.0f, x.share());
        x.pass(2);
        check.equal("26 two of four", 0.5f, x.share());
    }
}

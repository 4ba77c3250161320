import java.util.List;
import java.util.function.Function;
import java.util.function.Supplier;

/** For each range of an argument and each refused call that the document names, a test of its own. */
public final class ArgumentEdges {
    private static final int NONE = MessageCentre.NONE;

    /** Three of them, for an object is used for at most 512 calls. */
    private static final List<Function<MessageCentre, String>> WAYS_TO_GO_ON =
            List.of(Told::of, ArgumentEdges::submittingOn, ArgumentEdges::deliveringOn);

    private static final Check check = new Check();

    public static void main(String[] args) {
        refused("a new centre", MessageCentre::new, RefusedCalls.ofAny(0));
        refused("a lively centre", Given::lively, RefusedCalls.ofAny(9));
        refused("a lively centre", Given::lively, RefusedCalls.ofLively());
        refused("a centre with 40 messages", Given::forty, RefusedCalls.ofAny(40));
        refused("a centre with 40 messages", Given::forty, RefusedCalls.ofForty());
        accountsFirstAndLast();
        recipientsFirstAndLast();
        messagesFirstAndLast();
        lettersAndEvery();
        kindsAndReferences();
        ratesAndWindows();
        prioritiesAndValidities();
        modes();
        rooms();
        partsRead();
        ticks();
        theConstants();
        check.end("ArgumentEdges");
    }

    /** Each call is refused, and whatever is called then is answered as if it had not been called. */
    private static void refused(String state, Supplier<MessageCentre> made, List<RefusedCalls.Refused> calls) {
        for (RefusedCalls.Refused refused : calls) {
            String name = state + ", " + refused.name();
            for (Function<MessageCentre, String> goOn : WAYS_TO_GO_ON) {
                MessageCentre called = made.get();
                check.sentence(refused.sentence());
                check.throwing(name, refused.thrown(), () -> refused.on().call(called));
                check.sentence("A call that throws changes nothing.");
                check.equal(name, goOn.apply(made.get()), goOn.apply(called));
            }
        }
    }

    /** Shows what can't be asked of accounts: drafts, options, rates and windows. */
    private static String submittingOn(MessageCentre x) {
        StringBuilder text = new StringBuilder();
        for (int tick = 0; tick < 8; tick++) {
            for (int account = 0; account < 4; account++) {
                text.append(' ').append(submitted(x, account, (tick + account) % 6));
            }
            text.append(" passed ").append(x.pass(1));
        }
        return text.append(Told.of(x)).toString();
    }

    /** Shows what can't be asked of recipients, and takes the receipts. */
    private static String deliveringOn(MessageCentre x) {
        StringBuilder text = new StringBuilder();
        for (int recipient = 0; recipient < 6; recipient++) {
            text.append(" mode ").append(x.setMode(recipient, MessageCentre.PRESENT));
            text.append(" room ").append(x.setRoom(recipient, 50));
            text.append(" read ").append(x.read(recipient, 1));
        }
        text.append(" passed ").append(x.pass(20)).append(' ').append(Told.of(x));
        for (int account = 0; account < 4; account++) {
            text.append(" rate ").append(x.setRate(account, 1, 1));
            for (int receipt : Given.receipts(x, account)) {
                text.append(' ').append(receipt);
            }
        }
        return text.toString();
    }

    private static int submitted(MessageCentre x, int account, int recipient) {
        try {
            return x.submit(account, recipient, 1, 100);
        } catch (IllegalStateException thrown) {
            return NONE;
        }
    }

    private static void accountsFirstAndLast() {
        check.sentence("There are the accounts 0 to 3");
        for (int account = 0; account < 4; account++) {
            MessageCentre x = new MessageCentre();
            check.equal("draft", 2, x.draft(account, 161, 0, false));
            x.setOptions(account, 1, NONE, true);
            check.equal("setRate", 20, x.setRate(account, 1, 1));
            check.equal("submit", 0, x.submit(account, 0, 0, 500));
            x.delete(0);
            check.equal("receipts", 1, x.receipts(account));
            check.equal("takeReceipt", 3, x.takeReceipt(account));
        }
    }

    private static void recipientsFirstAndLast() {
        check.sentence("and the recipients 0 to 5");
        for (int recipient = 0; recipient < 6; recipient++) {
            MessageCentre x = new MessageCentre();
            check.equal("submit", 0, x.submit(0, recipient, 0, 500));
            check.equal("waiting", 1, x.waiting(recipient));
            check.equal("next", 0, x.next(recipient));
            check.equal("setMode", MessageCentre.PRESENT, x.setMode(recipient, MessageCentre.ABSENT));
            check.equal("an attempt that fails", 0, x.pass(1));
            check.equal("marks", 1, x.marks(recipient));
            check.equal("setMode again", MessageCentre.ABSENT, x.setMode(recipient, MessageCentre.PRESENT));
            check.equal("setRoom", 10, x.setRoom(recipient, 1));
            check.equal("pass", 1, x.pass(1));
            check.equal("inRoom", 1, x.inRoom(recipient));
            check.equal("read", 0, x.read(recipient, 1));
        }
    }

    private static void messagesFirstAndLast() {
        check.sentence("Messages are numbered from 0, at most 40.");
        MessageCentre x = Given.forty();
        for (int message : new int[] {0, 39}) {
            check.equal("state", MessageCentre.WAITING, x.state(message));
            check.equal("stateByLog", MessageCentre.WAITING, x.stateByLog(message));
            check.equal("parts", 1, x.parts(message));
            check.equal("lettersIn", 1, x.lettersIn(message, 0));
            check.equal("delivered", 0, x.delivered(message));
            check.equal("attempts", 0, x.attempts(message));
            check.equal("due", 0, x.due(message));
            check.equal("delete", 0, x.delete(message));
        }
    }

    private static void lettersAndEvery() {
        check.sentence("letters: 1 to 500, every: 0 to 50");
        MessageCentre x = new MessageCentre();
        check.equal("1, 0, narrow", 1, x.draft(0, 1, 0, false));
        check.equal("1, 50, narrow", 1, x.draft(0, 1, 50, false));
        check.equal("500, 0, narrow", 4, x.draft(0, 500, 0, false));
        check.equal("500, 1, narrow", 7, x.draft(0, 500, 1, false));
        check.equal("500, 50, narrow", 4, x.draft(0, 500, 50, false));
        check.equal("1, 0, wide", 1, x.draft(0, 1, 0, true));
        check.equal("1, 50, wide", 1, x.draft(0, 1, 50, true));
        check.equal("500, 50, wide", 8, x.draft(0, 500, 50, true));
    }

    private static void kindsAndReferences() {
        check.sentence("kind: 0 to 7, reference: 0 to 99, or NONE");
        for (int kind : new int[] {0, 7}) {
            for (int reference : new int[] {0, 99, NONE}) {
                MessageCentre x = new MessageCentre();
                x.setOptions(0, kind, reference, false);
                x.submit(0, 0, 0, 500);
                int want = reference == NONE ? 1 : 0;
                check.equal("reference " + reference, want, x.submit(0, 0, 0, 500));
                int waiting = kind == 0 && reference == NONE ? 2 : 1;
                check.equal("kind " + kind, waiting, x.waiting(0));
            }
        }
    }

    private static void ratesAndWindows() {
        check.sentence("most: 0 to 40, window: 1 to 200; Returns how many messages were allowed before.");
        MessageCentre x = new MessageCentre();
        check.equal("at first", 20, x.setRate(0, 0, 1));
        check.equal("0 in 1", 0, x.setRate(0, 40, 200));
        check.equal("40 in 200", 40, x.setRate(0, 0, 200));
        check.equal("0 in 200", 0, x.setRate(0, 40, 1));
        check.equal("40 in 1", 40, x.setRate(0, 3, 7));
        check.equal("3, not the window", 3, x.setRate(0, 3, 7));
        check.equal("another account", 20, x.setRate(3, 1, 1));
    }

    private static void prioritiesAndValidities() {
        check.sentence("priority: 0 to 3, validity: 1 to 500 ticks");
        MessageCentre x = new MessageCentre();
        check.equal("0, 1", 0, x.submit(0, 0, 0, 1));
        check.equal("0, 500", 1, x.submit(0, 0, 0, 500));
        check.equal("3, 1", 2, x.submit(0, 0, 3, 1));
        check.equal("3, 500", 3, x.submit(0, 0, 3, 500));
        x.pass(1);
        check.equal("those of 1 expired", new int[] {2, 0, 2, 1}, Given.states(x));
    }

    private static void modes() {
        check.sentence("mode: PRESENT to BARRED");
        MessageCentre x = new MessageCentre();
        int before = MessageCentre.PRESENT;
        for (int mode = MessageCentre.PRESENT; mode <= MessageCentre.BARRED; mode++) {
            check.equal("mode " + mode, before, x.setMode(5, mode));
            before = mode;
        }
        check.equal("the last", before, x.setMode(5, MessageCentre.PRESENT));
    }

    private static void rooms() {
        check.sentence("parts: 0 to 50");
        MessageCentre x = new MessageCentre();
        check.equal("at first", 10, x.setRoom(5, 0));
        check.equal("0", 0, x.setRoom(5, 50));
        check.equal("50", 50, x.setRoom(5, 10));
    }

    private static void partsRead() {
        check.sentence("parts: 1 to 50");
        MessageCentre x = new MessageCentre();
        x.submit(0, 0, 0, 500);
        x.submit(0, 0, 0, 500);
        x.pass(2);
        check.equal("1", 1, x.read(0, 1));
        check.equal("50", 0, x.read(0, 50));
    }

    private static void ticks() {
        check.sentence("ticks: 1 to 100");
        MessageCentre x = new MessageCentre();
        check.equal("1", 0, x.pass(1));
        check.equal("100", 0, x.pass(100));
        check.equal("together", 101, x.now());
    }

    private static void theConstants() {
        check.sentence("The constants");
        int[] states = {MessageCentre.WAITING, MessageCentre.DELIVERED, MessageCentre.EXPIRED,
            MessageCentre.DELETED, MessageCentre.REFUSED};
        int[] modes = {MessageCentre.PRESENT, MessageCentre.ABSENT, MessageCentre.BUSY, MessageCentre.BARRED};
        check.equal("states of messages", new int[] {0, 1, 2, 3, 4}, states);
        check.equal("what a recipient is", new int[] {0, 1, 2, 3}, modes);
        check.equal("NONE", -1, MessageCentre.NONE);
    }
}

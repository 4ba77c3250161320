/** For each sentence about receipts and the share that names a boundary case, a test of its own. */
public final class ReceiptEdges {
    private static final Check check = new Check();

    public static void main(String[] args) {
        receiptForEachEnd();
        noReceiptWhileItWaits();
        onlyIfItWasWanted();
        itsOwnAccount();
        behindThoseThatItHas();
        behindWhatWasLeft();
        replacedOnesGetReceipts();
        numberAndState();
        noneToTake();
        fortyReceipts();
        shareIfAllWait();
        shareOfEachEnd();
        shareIsAFloat();
        check.end("ReceiptEdges");
    }

    private static void receiptForEachEnd() {
        check.sentence("When a message for which a receipt is wanted does not wait any more, its account gets a receipt");
        MessageCentre x = new MessageCentre();
        Given.wantReceipts(x, 0);
        x.setMode(2, MessageCentre.BARRED);
        x.setMode(3, MessageCentre.BUSY);
        x.submit(0, 0, 0, 500);
        x.submit(0, 1, 0, 500);
        x.submit(0, 2, 0, 500);
        x.submit(0, 3, 0, 2);
        x.delete(0);
        check.equal("deleted", 1, x.receipts(0));
        x.pass(1);
        check.equal("delivered and refused", 3, x.receipts(0));
        x.pass(1);
        check.equal("expired", 4, x.receipts(0));
        check.equal("all", new int[] {3, 11, 24, 32}, Given.receipts(x, 0));
        x.pass(100);
        check.equal("no second one", 0, x.receipts(0));
    }

    private static void noReceiptWhileItWaits() {
        check.sentence("does not wait any more");
        MessageCentre x = Given.parts(2);
        Given.wantReceipts(x, 0);
        x.submit(0, 0, 0, 500);
        check.equal("submitted", 0, x.receipts(0));
        x.pass(1);
        check.equal("one part of two", 0, x.receipts(0));
        x.setMode(0, MessageCentre.BUSY);
        x.pass(1);
        check.equal("failed", 0, x.receipts(0));
        x.setMode(0, MessageCentre.PRESENT);
        x.pass(2);
        check.equal("the last part", 1, x.receipts(0));
    }

    private static void onlyIfItWasWanted() {
        check.sentence("for which a receipt is wanted");
        MessageCentre x = new MessageCentre();
        x.submit(0, 0, 0, 500);
        Given.wantReceipts(x, 0);
        x.submit(0, 1, 0, 500);
        x.setOptions(0, 0, MessageCentre.NONE, false);
        x.submit(0, 2, 0, 500);
        x.pass(1);
        check.equal("wanted at its submission", new int[] {11}, Given.receipts(x, 0));
    }

    private static void itsOwnAccount() {
        check.sentence("its account gets a receipt");
        for (int account = 0; account < 4; account++) {
            MessageCentre x = new MessageCentre();
            Given.wantReceipts(x, account);
            x.submit(account, 5, 0, 500);
            x.pass(1);
            for (int other = 0; other < 4; other++) {
                check.equal("account " + other, other == account ? 1 : 0, x.receipts(other));
            }
        }
    }

    private static void behindThoseThatItHas() {
        check.sentence("behind those that it has");
        MessageCentre x = new MessageCentre();
        Given.wantReceipts(x, 0);
        for (int i = 0; i < 4; i++) {
            x.submit(0, i, 0, 500);
        }
        x.delete(2);
        x.delete(0);
        x.delete(3);
        x.delete(1);
        check.equal("in the order of their ends", new int[] {23, 3, 33, 13}, Given.receipts(x, 0));
    }

    private static void behindWhatWasLeft() {
        check.sentence("Takes the first receipt of an account.");
        MessageCentre x = new MessageCentre();
        Given.wantReceipts(x, 0);
        for (int i = 0; i < 4; i++) {
            x.submit(0, i, 0, 500);
        }
        x.delete(3);
        x.delete(2);
        check.equal("the first", 33, x.takeReceipt(0));
        check.equal("one is left", 1, x.receipts(0));
        x.delete(1);
        check.equal("that which was left", 23, x.takeReceipt(0));
        check.equal("then the new one", 13, x.takeReceipt(0));
        check.equal("none is left", 0, x.receipts(0));
        x.delete(0);
        check.equal("one again", 3, x.takeReceipt(0));
    }

    private static void replacedOnesGetReceipts() {
        check.sentence("When a message for which a receipt is wanted does not wait any more");
        MessageCentre x = new MessageCentre();
        x.setOptions(0, 4, MessageCentre.NONE, true);
        x.submit(0, 0, 0, 500);
        x.submit(0, 0, 0, 500);
        check.equal("deleted by the submission", 1, x.receipts(0));
        x.setOptions(0, 4, MessageCentre.NONE, false);
        x.submit(0, 0, 0, 500);
        x.submit(0, 0, 0, 500);
        check.equal("not the third one's", new int[] {3, 13}, Given.receipts(x, 0));
    }

    private static void numberAndState() {
        check.sentence("Returns 10 times the number of the message, plus its state.");
        MessageCentre x = new MessageCentre();
        x.setRate(1, 40, 200);
        Given.wantReceipts(x, 1);
        for (int message = 0; message < 40; message++) {
            x.submit(1, message % 6, 0, 500);
        }
        x.delete(39);
        check.equal("the last message", 10 * 39 + MessageCentre.DELETED, x.takeReceipt(1));
        x.pass(1);
        check.equal("message 0", MessageCentre.DELIVERED, x.takeReceipt(1));
        check.equal("message 1", 10 + MessageCentre.DELIVERED, x.takeReceipt(1));
    }

    private static void noneToTake() {
        check.sentence("Throws IllegalStateException if it has none");
        MessageCentre x = new MessageCentre();
        for (int account = 0; account < 4; account++) {
            int empty = account;
            check.noState("at first, account " + empty, () -> x.takeReceipt(empty));
        }
        Given.wantReceipts(x, 0);
        x.submit(0, 0, 0, 500);
        check.noState("while it waits", () -> x.takeReceipt(0));
        x.pass(1);
        check.noState("of another account", () -> x.takeReceipt(1));
        check.equal("one", 1, x.takeReceipt(0));
        check.noState("taken before", () -> x.takeReceipt(0));
        check.equal("none", 0, x.receipts(0));
    }

    private static void fortyReceipts() {
        check.sentence("Returns how many receipts an account has.");
        MessageCentre x = new MessageCentre();
        x.setRate(0, 40, 1);
        Given.wantReceipts(x, 0);
        for (int i = 0; i < 40; i++) {
            x.submit(0, i % 6, 0, 1);
        }
        check.equal("none", 0, x.receipts(0));
        x.pass(1);
        check.equal("forty", 40, x.receipts(0));
        for (int message = 0; message < 40; message++) {
            check.equal("expired by rising numbers", 10 * message + MessageCentre.EXPIRED, x.takeReceipt(0));
            check.equal("left", 39 - message, x.receipts(0));
        }
    }

    private static void shareIfAllWait() {
        check.sentence("Returns the share; 0.0 if all wait.");
        MessageCentre x = Given.parts(2);
        check.equal("no message", 0.0f, x.share());
        x.submit(0, 0, 0, 500);
        check.equal("one that waits", 0.0f, x.share());
        x.pass(1);
        check.equal("one that came in part", 0.0f, x.share());
        x.pass(1);
        check.equal("one that was delivered", 1.0f, x.share());
    }

    private static void shareOfEachEnd() {
        check.sentence("divided by how many do not wait any more");
        MessageCentre x = new MessageCentre();
        x.setMode(1, MessageCentre.BARRED);
        x.setMode(2, MessageCentre.BUSY);
        x.submit(0, 0, 0, 500);
        x.submit(0, 1, 0, 500);
        x.submit(0, 2, 0, 2);
        x.submit(0, 2, 0, 500);
        x.submit(0, 2, 0, 500);
        x.delete(3);
        check.equal("one deleted", 0.0f, x.share());
        x.pass(1);
        check.equal("one deleted, refused, delivered", 1.0f / 3.0f, x.share());
        x.pass(1);
        check.equal("one deleted, refused, delivered, expired", 0.25f, x.share());
    }

    private static void shareIsAFloat() {
        check.sentence("how many are delivered, as a float, divided by how many do not wait any more, as a float");
        MessageCentre x = new MessageCentre();
        x.setRate(0, 40, 200);
        for (int i = 0; i < 40; i++) {
            x.submit(0, 0, 0, 500);
        }
        int delivered = 0;
        for (int message = 0; message < 40; message++) {
            if (message % 3 == 1) {
                x.delete(message);
            } else {
                x.read(0, 50);
                delivered += x.pass(1);
            }
            check.equal("of " + (message + 1), (float) delivered / (float) (message + 1), x.share());
        }
        check.equal("two thirds of forty", 27.0f / 40.0f, x.share());
    }
}

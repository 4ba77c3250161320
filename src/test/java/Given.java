/** Centres to begin a test with, and what takes several calls to do or to ask. */
final class Given {
    private Given() {
    }

    /** A centre whose account 0 has a draft of so many parts, 8 at most. */
    static MessageCentre parts(int parts) {
        MessageCentre x = new MessageCentre();
        draftParts(x, 0, parts);
        return x;
    }

    static void draftParts(MessageCentre x, int account, int parts) {
        x.draft(account, parts == 1 ? 1 : 67 * (parts - 1) + 31, 0, true);
    }

    /** A centre whose recipient 0 is this, and has a message that waits for it. */
    static MessageCentre mode(int mode) {
        MessageCentre x = new MessageCentre();
        x.setMode(0, mode);
        x.submit(0, 0, 0, 500);
        return x;
    }

    /** A centre whose recipient 0 has this room, and has a message that waits for it. */
    static MessageCentre room(int room) {
        MessageCentre x = new MessageCentre();
        x.setRoom(0, room);
        x.submit(0, 0, 0, 500);
        return x;
    }

    /** Five messages, message 0 waiting and 1 to 4 each in the state of its number. */
    static MessageCentre allStates() {
        MessageCentre x = new MessageCentre();
        x.setMode(0, MessageCentre.BUSY);
        x.setMode(2, MessageCentre.ABSENT);
        x.setMode(4, MessageCentre.BARRED);
        x.submit(0, 0, 0, 500);
        x.submit(0, 1, 0, 500);
        x.submit(0, 2, 0, 8);
        x.submit(0, 3, 0, 500);
        x.delete(3);
        x.submit(0, 4, 0, 500);
        x.pass(8);
        return x;
    }

    /** Messages 0 to 4 as in allStates, marks, receipts, parts in rooms, and drafts and options in each account. */
    static MessageCentre lively() {
        MessageCentre x = new MessageCentre();
        wantReceipts(x, 0);
        for (int recipient = 0; recipient < 4; recipient++) {
            x.setMode(recipient, recipient);
        }
        x.setRoom(4, 0);
        x.setRoom(5, 1);
        x.submit(0, 1, 1, 500);
        x.submit(0, 0, 0, 500);
        x.submit(0, 2, 0, 2);
        x.submit(0, 0, 0, 500);
        x.delete(3);
        x.submit(0, 3, 0, 500);
        x.submit(0, 4, 0, 500);
        draftParts(x, 0, 2);
        x.submit(0, 5, 0, 500);
        x.pass(3);
        livelyAccounts(x);
        return x;
    }

    private static void livelyAccounts(MessageCentre x) {
        x.setOptions(0, 1, MessageCentre.NONE, true);
        x.setOptions(1, 0, 11, true);
        x.setOptions(2, 2, 12, true);
        x.draft(1, 200, 3, false);
        x.draft(2, 71, 3, true);
        for (int account = 0; account < 4; account++) {
            x.setRate(account, 2, 4 + account);
        }
        x.submit(1, 0, 0, 500);
        x.submit(2, 2, 0, 500);
    }

    /** Forty messages, ten of each account. */
    static MessageCentre forty() {
        MessageCentre x = new MessageCentre();
        for (int i = 0; i < 40; i++) {
            x.submit(i % 4, i % 6, i % 3, 500);
        }
        return x;
    }

    /** Options without a kind and a reference, with receipts. */
    static void wantReceipts(MessageCentre x, int account) {
        x.setOptions(account, 0, MessageCentre.NONE, true);
    }

    /** As many ticks as are wanted, though one call of pass takes no more than 100. */
    static int pass(MessageCentre x, int ticks) {
        int arrived = 0;
        for (int left = ticks; left > 0; left -= 100) {
            arrived += x.pass(Math.min(left, 100));
        }
        return arrived;
    }

    static int[] letters(MessageCentre x, int message) {
        int[] letters = new int[x.parts(message)];
        for (int part = 0; part < letters.length; part++) {
            letters[part] = x.lettersIn(message, part);
        }
        return letters;
    }

    /** The letters of each part of a message with such a text. */
    static int[] cut(int letters, int every, boolean wide) {
        MessageCentre x = new MessageCentre();
        x.draft(0, letters, every, wide);
        return letters(x, x.submit(0, 0, 0, 1));
    }

    static int[] receipts(MessageCentre x, int account) {
        int[] receipts = new int[x.receipts(account)];
        for (int i = 0; i < receipts.length; i++) {
            receipts[i] = x.takeReceipt(account);
        }
        return receipts;
    }

    /** The states of all messages. */
    static int[] states(MessageCentre x) {
        int[] states = new int[x.messages()];
        for (int message = 0; message < states.length; message++) {
            states[message] = x.state(message);
        }
        return states;
    }
}

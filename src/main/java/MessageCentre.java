import java.util.ArrayList;
import java.util.Arrays;

/** A short message centre; what it promises stands in the project's document. */
public final class MessageCentre {
    public static final int NONE = -1;
    public static final int WAITING = 0, DELIVERED = 1, EXPIRED = 2, DELETED = 3, REFUSED = 4;
    public static final int PRESENT = 0, ABSENT = 1, BUSY = 2, BARRED = 3;

    private static final int ACCOUNTS = 4;
    private static final int RECIPIENTS = 6;
    private static final int MOST_MESSAGES = 40;

    private static final int MOST_LETTERS = 500;
    private static final int NARROW_ALONE = 160;
    private static final int NARROW_PART = 153;
    private static final int WIDE_ALONE = 70;
    private static final int WIDE_PART = 67;
    /** 500 wide letters make 8 parts; no narrow text makes more than 7. */
    private static final int MOST_PARTS = 8;

    private static final int MEMORY_OF_REFERENCES = 30;
    private static final int LAST_TICK = 0x7FFFFFFF;

    private final Account[] accounts;
    private final Recipient[] recipients;
    /** All messages, each at the place of its number. */
    private final ArrayList<Message> messages;
    private int tick;

    public MessageCentre() {
        accounts = new Account[ACCOUNTS];
        for (int i = 0; i < accounts.length; i++) {
            accounts[i] = new Account();
        }
        recipients = new Recipient[RECIPIENTS];
        for (int i = 0; i < recipients.length; i++) {
            recipients[i] = new Recipient();
        }
        messages = new ArrayList<Message>();
    }

    // ---- drafts and submitting

    public int draft(int account, int letters, int every, boolean wide)
            throws IndexOutOfBoundsException, IllegalArgumentException {
        Account sender = accountAt(account);
        requireInRange(letters, 1, MOST_LETTERS);
        requireInRange(every, 0, 50);
        sender.draft = wide
                ? cut(letters, 0, WIDE_ALONE, WIDE_PART)
                : cut(letters, every, NARROW_ALONE, NARROW_PART);
        return sender.draft.length;
    }

    public void setOptions(int account, int kind, int reference, boolean receipt)
            throws IndexOutOfBoundsException, IllegalArgumentException {
        Account sender = accountAt(account);
        requireInRange(kind, 0, 7);
        if (reference != NONE) {
            requireInRange(reference, 0, 99);
        }
        sender.kind = kind;
        sender.reference = reference;
        sender.wantsReceipts = receipt;
    }

    public int setRate(int account, int most, int window)
            throws IndexOutOfBoundsException, IllegalArgumentException {
        Account sender = accountAt(account);
        requireInRange(most, 0, 40);
        requireInRange(window, 1, 200);
        int before = sender.rate;
        sender.rate = most;
        sender.window = window;
        return before;
    }

    public int submit(int account, int recipient, int priority, int validity)
            throws IndexOutOfBoundsException, IllegalArgumentException, IllegalStateException {
        Account sender = accountAt(account);
        Recipient target = recipientAt(recipient);
        requireInRange(priority, 0, 3);
        requireInRange(validity, 1, 500);
        Message known = knownAgain(sender, target);
        if (known != null) {
            return known.number;
        }
        if (isThrottled(sender) || messages.size() >= MOST_MESSAGES) {
            throw new IllegalStateException("throttled, or no message more");
        }
        Message message = new Message(messages.size(), sender, target, priority, validity, tick);
        messages.add(message);
        target.queue.add(message);
        deleteReplacedBy(message);
        return message.number;
    }

    public int delete(int message) throws IndexOutOfBoundsException, IllegalStateException {
        Message deleted = waitingMessageAt(message);
        deleted.finish(DELETED);
        return deleted.arrived;
    }

    public int messages() {
        return messages.size();
    }

    public int state(int message) throws IndexOutOfBoundsException {
        return messageAt(message).status;
    }

    public int stateByLog(int message) throws IndexOutOfBoundsException {
        Message told = messageAt(message);
        return told.log.stateAtItsEnd(told.text.length);
    }

    public int parts(int message) throws IndexOutOfBoundsException {
        return messageAt(message).text.length;
    }

    public int lettersIn(int message, int part) throws IndexOutOfBoundsException {
        int[] text = messageAt(message).text;
        if (part < 0 || part >= text.length) {
            throw new IndexOutOfBoundsException("no such part");
        }
        return text[part];
    }

    public int delivered(int message) throws IndexOutOfBoundsException {
        return messageAt(message).arrived;
    }

    public int attempts(int message) throws IndexOutOfBoundsException {
        return messageAt(message).tries;
    }

    public int due(int message) throws IndexOutOfBoundsException, IllegalStateException {
        return waitingMessageAt(message).dueAt;
    }

    // ---- recipients and time

    public int setMode(int recipient, int mode)
            throws IndexOutOfBoundsException, IllegalArgumentException {
        Recipient target = recipientAt(recipient);
        requireInRange(mode, PRESENT, BARRED);
        int before = target.mode;
        target.mode = mode;
        if (mode == PRESENT) {
            target.wakeFrom(Recipient.MARKED_ABSENT, tick);
        }
        return before;
    }

    public int setRoom(int recipient, int parts)
            throws IndexOutOfBoundsException, IllegalArgumentException {
        Recipient target = recipientAt(recipient);
        requireInRange(parts, 0, 50);
        int before = target.room;
        target.room = parts;
        wakeIfRoomAgain(target);
        return before;
    }

    public int read(int recipient, int parts)
            throws IndexOutOfBoundsException, IllegalArgumentException {
        Recipient target = recipientAt(recipient);
        requireInRange(parts, 1, 50);
        target.inside = Math.max(0, target.inside - parts);
        wakeIfRoomAgain(target);
        return target.inside;
    }

    public int inRoom(int recipient) throws IndexOutOfBoundsException {
        return recipientAt(recipient).inside;
    }

    public int marks(int recipient) throws IndexOutOfBoundsException {
        return recipientAt(recipient).marked;
    }

    public int waiting(int recipient) throws IndexOutOfBoundsException {
        return recipientAt(recipient).queue.size();
    }

    public int next(int recipient) throws IndexOutOfBoundsException {
        Message first = recipientAt(recipient).firstDueUntil(LAST_TICK);
        return first == null ? NONE : first.number;
    }

    public int pass(int ticks) throws IllegalArgumentException {
        requireInRange(ticks, 1, 100);
        int arrived = 0;
        for (int i = 0; i < ticks; i++) {
            tick++;
            expireMessages();
            for (int j = 0; j < recipients.length; j++) {
                arrived += attemptFor(recipients[j]);
            }
        }
        return arrived;
    }

    public int now() {
        return tick;
    }

    // ---- receipts

    public int receipts(int account) throws IndexOutOfBoundsException {
        return accountAt(account).receipts.size();
    }

    public int takeReceipt(int account) throws IndexOutOfBoundsException, IllegalStateException {
        ArrayList<Message> receipts = accountAt(account).receipts;
        if (receipts.isEmpty()) {
            throw new IllegalStateException("no receipt");
        }
        Message ended = receipts.remove(0);
        return 10 * ended.number + ended.status;
    }

    public float share() {
        int delivered = 0;
        int ended = 0;
        for (int i = 0; i < messages.size(); i++) {
            int status = messages.get(i).status;
            if (status != WAITING) {
                ended++;
            }
            if (status == DELIVERED) {
                delivered++;
            }
        }
        return ended == 0 ? 0.0f : (float) delivered / (float) ended;
    }

    // ---- arguments

    private Account accountAt(int account) {
        if (account < 0 || account >= accounts.length) {
            throw new IndexOutOfBoundsException("no such account");
        }
        return accounts[account];
    }

    private Recipient recipientAt(int recipient) {
        if (recipient < 0 || recipient >= recipients.length) {
            throw new IndexOutOfBoundsException("no such recipient");
        }
        return recipients[recipient];
    }

    private Message messageAt(int message) {
        if (message < 0 || message >= messages.size()) {
            throw new IndexOutOfBoundsException("no such message");
        }
        return messages.get(message);
    }

    private Message waitingMessageAt(int message) {
        Message found = messageAt(message);
        if (found.status != WAITING) {
            throw new IllegalStateException("the message does not wait");
        }
        return found;
    }

    private static void requireInRange(int argument, int least, int most) {
        if (argument < least || argument > most) {
            throw new IllegalArgumentException("an argument is out of its range");
        }
    }

    // ---- texts

    /** How many letters each part has of a text that is one part if it takes at most alone places. */
    private static int[] cut(int letters, int every, int alone, int together) {
        if (placesOf(letters, every) <= alone) {
            return new int[] {letters};
        }
        int[] row = new int[MOST_PARTS];
        int parts = 0;
        int before = 0;
        while (parts < row.length && before < letters) {
            int fitting = lettersThatFit(before, letters, every, together);
            row[parts] = fitting;
            parts++;
            before += fitting;
        }
        return Arrays.copyOf(row, parts);
    }

    /** How many places the first letters of a text take. */
    private static int placesOf(int letters, int every) {
        return every > 0 ? letters + letters / every : letters;
    }

    /** How many of the letters behind the first ones take at most so many places together. */
    private static int lettersThatFit(int before, int letters, int every, int places) {
        int taken = placesOf(before, every);
        int fitting = 0;
        for (int end = before + 1; end <= letters; end++) {
            if (placesOf(end, every) - taken > places) {
                break;
            }
            fitting++;
        }
        return fitting;
    }

    // ---- submitting

    private Message knownAgain(Account sender, Recipient target) {
        if (sender.reference == NONE) {
            return null;
        }
        Message known = null;
        for (int i = 0; i < messages.size(); i++) {
            Message message = messages.get(i);
            if (message.goesBetween(sender, target) && message.reference == sender.reference
                    && tick - message.submittedAt < MEMORY_OF_REFERENCES) {
                known = message;
            }
        }
        return known;
    }

    private boolean isThrottled(Account sender) {
        int submitted = 0;
        for (int i = 0; i < messages.size(); i++) {
            Message message = messages.get(i);
            if (message.sender == sender && tick - message.submittedAt < sender.window) {
                submitted++;
            }
        }
        return submitted >= sender.rate;
    }

    private void deleteReplacedBy(Message newest) {
        if (newest.kind == 0) {
            return;
        }
        for (int i = 0; i < newest.number && i < messages.size(); i++) {
            Message message = messages.get(i);
            if (message.status == WAITING && message.arrived == 0 && message.kind == newest.kind
                    && message.goesBetween(newest.sender, newest.target)) {
                message.finish(DELETED);
            }
        }
    }

    // ---- time

    private void expireMessages() {
        for (int i = 0; i < messages.size(); i++) {
            Message message = messages.get(i);
            if (message.status == WAITING && tick - message.submittedAt >= message.validity) {
                message.finish(EXPIRED);
            }
        }
    }

    /** Makes the attempt of this tick for a recipient; returns how many parts it delivers. */
    private int attemptFor(Recipient target) {
        Message message = target.firstDueUntil(tick);
        if (message == null) {
            return 0;
        }
        message.tries++;
        if (target.mode == BARRED) {
            message.finish(REFUSED);
            return 0;
        }
        Cause cause = target.causeToFail();
        if (cause == null) {
            message.arrive(tick);
            return 1;
        }
        message.fail(cause, tick);
        target.marked |= cause.mark;
        return 0;
    }

    private void wakeIfRoomAgain(Recipient target) {
        if (target.inside < target.room) {
            target.wakeFrom(Recipient.MARKED_FULL, tick);
        }
    }

    /** A cause for which attempts fail. */
    private enum Cause {
        BUSY(0, 2, 0),
        ABSENT(1, 5, Recipient.MARKED_ABSENT),
        FULL(2, 10, Recipient.MARKED_FULL);

        /** The place of the cause where failures are counted. */
        final int place;
        final int firstDelay;
        /** What a recipient is marked with. */
        final int mark;

        Cause(int place, int firstDelay, int mark) {
            this.place = place;
            this.firstDelay = firstDelay;
            this.mark = mark;
        }

        int delayAfter(int failures) {
            return firstDelay << Math.max(0, Math.min(failures - 1, 3));
        }
    }

    /** What belongs to an account: the draft and options of its next message, its rate and receipts. */
    private static final class Account {
        /** How many letters each part of the draft has; shared with messages, so never changed. */
        int[] draft = {1};
        int kind = 0;
        int reference = NONE;
        boolean wantsReceipts = false;
        int rate = 20;
        int window = 10;
        /** The messages that the account has receipts for, the first receipt ahead. */
        final ArrayList<Message> receipts = new ArrayList<Message>();
    }

    /** A recipient, and the messages that wait for it. */
    private static final class Recipient {
        static final int MARKED_ABSENT = 1;
        static final int MARKED_FULL = 2;

        int mode = PRESENT;
        int room = 10;
        /** How many parts are in the room. */
        int inside = 0;
        int marked = 0;
        /** The waiting messages by rising numbers. */
        final ArrayList<Message> queue = new ArrayList<Message>();

        /** The message whose turn is first among those that are due at this tick or earlier. */
        Message firstDueUntil(int latest) {
            Message first = null;
            for (int i = 0; i < queue.size(); i++) {
                Message message = queue.get(i);
                if (message.dueAt <= latest && (first == null || message.goesBefore(first))) {
                    first = message;
                }
            }
            return first;
        }

        /** Why a part can't come in now; null if it can. */
        Cause causeToFail() {
            if (mode == MessageCentre.BUSY) {
                return Cause.BUSY;
            }
            if (mode == MessageCentre.ABSENT) {
                return Cause.ABSENT;
            }
            return inside < room ? null : Cause.FULL;
        }

        void wakeFrom(int mark, int tick) {
            if ((marked & mark) == 0) {
                return;
            }
            marked &= ~mark;
            for (int i = 0; i < queue.size(); i++) {
                Message message = queue.get(i);
                message.dueAt = Math.min(message.dueAt, tick);
            }
        }

        void takeFromQueue(Message message) {
            for (int i = 0; i < queue.size(); i++) {
                if (queue.get(i) == message) {
                    queue.remove(i);
                    return;
                }
            }
        }
    }

    private static final class Message {
        final int number;
        final Account sender;
        final Recipient target;
        /** How many letters each part has. */
        final int[] text;
        final int kind;
        final int reference;
        final boolean wantsReceipt;
        final int priority;
        final int validity;
        final int submittedAt;
        final Log log;
        /** How often it failed for each cause since its failures were forgotten. */
        final int[] failures;
        int status = WAITING;
        int dueAt;
        int tries = 0;
        /** How many of its parts were delivered. */
        int arrived = 0;

        Message(int number, Account sender, Recipient target, int priority, int validity, int tick) {
            this.number = number;
            this.sender = sender;
            this.target = target;
            this.priority = priority;
            this.validity = validity;
            text = sender.draft;
            kind = sender.kind;
            reference = sender.reference;
            wantsReceipt = sender.wantsReceipts;
            submittedAt = tick;
            dueAt = tick;
            failures = new int[3];
            // It is submitted, attempted at most once in each tick of its validity but the last, and ends.
            log = new Log(validity + 1);
        }

        boolean goesBetween(Account account, Recipient recipient) {
            return sender == account && target == recipient;
        }

        /** Whether its turn is before that of a message with a lower number. */
        boolean goesBefore(Message older) {
            if (priority != older.priority) {
                return priority > older.priority;
            }
            return dueAt < older.dueAt;
        }

        /** Brings the next part into the room of the recipient. */
        void arrive(int tick) {
            target.inside++;
            arrived++;
            dueAt = tick;
            Arrays.fill(failures, 0);
            log.add(Log.ARRIVED);
            if (arrived >= text.length) {
                finish(DELIVERED);
            }
        }

        void fail(Cause cause, int tick) {
            int place = cause.place;
            if (place < 0 || place >= failures.length) {
                return;
            }
            failures[place]++;
            dueAt = tick + cause.delayAfter(failures[place]);
            log.add(Log.FAILED + place);
        }

        /** Lets it not wait any more. */
        void finish(int newStatus) {
            status = newStatus;
            // The log tells a delivery by the arrival of all parts alone.
            if (newStatus != DELIVERED) {
                log.add(Log.ENDED + newStatus);
            }
            target.takeFromQueue(this);
            if (wantsReceipt) {
                sender.receipts.add(this);
            }
        }
    }

    /** All that happened to a message, in its order. */
    private static final class Log {
        static final int SUBMITTED = 0;
        static final int ARRIVED = 1;
        /** Plus the place of the cause. */
        static final int FAILED = 2;
        /** Plus the state in which the message ended. */
        static final int ENDED = 10;

        private final int[] events;
        private int size = 0;

        Log(int mostEvents) {
            events = new int[mostEvents > 0 ? mostEvents : 0];
            add(SUBMITTED);
        }

        void add(int event) {
            if (size < events.length) {
                events[size] = event;
                size++;
            }
        }

        int stateAtItsEnd(int parts) {
            int state = WAITING;
            int arrived = 0;
            for (int i = 0; i < size && i < events.length; i++) {
                if (events[i] == ARRIVED) {
                    arrived++;
                }
                if (events[i] >= ENDED) {
                    state = events[i] - ENDED;
                }
            }
            return arrived >= parts ? DELIVERED : state;
        }
    }
}

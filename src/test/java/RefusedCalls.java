import java.util.ArrayList;
import java.util.List;

/** The calls that the document wants refused: for each argument what is out of its range, and for each state. */
final class RefusedCalls {
    interface OnCentre {
        long call(MessageCentre x);
    }

    record Refused(String sentence, String name, Class<? extends RuntimeException> thrown, OnCentre on) {
    }

    private static final int MIN = Integer.MIN_VALUE;
    private static final int MAX = Integer.MAX_VALUE;
    private static final int[] NO_ACCOUNTS = {-1, 4, 5, MIN, MAX};
    private static final int[] NO_RECIPIENTS = {-1, 6, 7, MIN, MAX};

    private final List<Refused> calls = new ArrayList<>();

    private RefusedCalls() {
    }

    /** Those that any centre refuses, if it has so many messages. */
    static List<Refused> ofAny(int messages) {
        RefusedCalls refused = new RefusedCalls();
        refused.accounts();
        refused.recipients();
        refused.messages(messages);
        refused.draftRanges();
        refused.optionRanges();
        refused.rateRanges();
        refused.submitRanges();
        refused.recipientRanges();
        refused.tickRange();
        return refused.calls;
    }

    /** Those that Given.lively() refuses for its state, or would if nothing else applied. */
    static List<Refused> ofLively() {
        RefusedCalls refused = new RefusedCalls();
        refused.noSubmission(0);
        refused.ended();
        refused.noPart();
        refused.noReceipt();
        refused.knownAgain();
        return refused.calls;
    }

    static List<Refused> ofForty() {
        RefusedCalls refused = new RefusedCalls();
        for (int account = 0; account < 4; account++) {
            refused.noSubmission(account);
        }
        return refused.calls;
    }

    private void noIndex(String sentence, String name, OnCentre on) {
        calls.add(new Refused(sentence, name, IndexOutOfBoundsException.class, on));
    }

    private void noArgument(String sentence, String name, OnCentre on) {
        calls.add(new Refused(sentence, name, IllegalArgumentException.class, on));
    }

    private void noState(String sentence, String name, OnCentre on) {
        calls.add(new Refused(sentence, name, IllegalStateException.class, on));
    }

    private static long options(MessageCentre x, int account, int kind, int reference) {
        x.setOptions(account, kind, reference, true);
        return 0;
    }

    private void accounts() {
        for (int account : NO_ACCOUNTS) {
            String no = "Throws IndexOutOfBoundsException if there is no such account";
            noIndex(no, "draft " + account, x -> x.draft(account, 9, 0, true));
            noIndex(no, "setOptions " + account, x -> options(x, account, 0, 0));
            noIndex(no, "setRate " + account, x -> x.setRate(account, 1, 1));
            noIndex(no, "submit " + account, x -> x.submit(account, 0, 0, 500));
            noIndex(no, "receipts " + account, x -> x.receipts(account));
            noIndex(no, "takeReceipt " + account, x -> x.takeReceipt(account));
            String first = "If several apply, the one that is named first in the throws clause is thrown.";
            noIndex(first, "draft " + account + ", letters", x -> x.draft(account, 0, 0, true));
            noIndex(first, "draft " + account + ", every", x -> x.draft(account, 1, 51, false));
            noIndex(first, "setOptions " + account + ", kind", x -> options(x, account, 8, 0));
            noIndex(first, "setOptions " + account + ", reference", x -> options(x, account, 0, -2));
            noIndex(first, "setRate " + account + ", most", x -> x.setRate(account, -1, 1));
            noIndex(first, "setRate " + account + ", window", x -> x.setRate(account, 1, 0));
            noIndex(first, "submit " + account + ", priority", x -> x.submit(account, 0, -1, 500));
            noIndex(first, "submit " + account + ", validity", x -> x.submit(account, 0, 0, 501));
        }
    }

    private void recipients() {
        for (int recipient : NO_RECIPIENTS) {
            String no = "Throws IndexOutOfBoundsException if there is no such recipient";
            noIndex(no, "submit to " + recipient, x -> x.submit(1, recipient, 0, 500));
            noIndex(no, "setMode " + recipient, x -> x.setMode(recipient, 0));
            noIndex(no, "setRoom " + recipient, x -> x.setRoom(recipient, 50));
            noIndex(no, "read " + recipient, x -> x.read(recipient, 50));
            noIndex(no, "inRoom " + recipient, x -> x.inRoom(recipient));
            noIndex(no, "marks " + recipient, x -> x.marks(recipient));
            noIndex(no, "waiting " + recipient, x -> x.waiting(recipient));
            noIndex(no, "next " + recipient, x -> x.next(recipient));
            String first = "If several apply, the one that is named first in the throws clause is thrown.";
            noIndex(first, "submit to " + recipient + ", priority", x -> x.submit(1, recipient, 4, 500));
            noIndex(first, "submit to " + recipient + ", validity", x -> x.submit(1, recipient, 0, 0));
            noIndex(first, "submit to " + recipient + ", account", x -> x.submit(-1, recipient, 4, 0));
            noIndex(first, "setMode " + recipient + ", mode", x -> x.setMode(recipient, 4));
            noIndex(first, "setRoom " + recipient + ", parts", x -> x.setRoom(recipient, 51));
            noIndex(first, "read " + recipient + ", parts", x -> x.read(recipient, 0));
        }
    }

    private void messages(int messages) {
        for (int message : new int[] {-1, messages, messages + 1, 40, 41, MIN, MAX}) {
            String no = "Throws IndexOutOfBoundsException if there is no such message";
            noIndex(no, "delete " + message, x -> x.delete(message));
            noIndex(no, "state " + message, x -> x.state(message));
            noIndex(no, "stateByLog " + message, x -> x.stateByLog(message));
            noIndex(no, "parts " + message, x -> x.parts(message));
            noIndex(no, "lettersIn " + message, x -> x.lettersIn(message, 0));
            noIndex(no, "lettersIn " + message + ", part", x -> x.lettersIn(message, -1));
            noIndex(no, "delivered " + message, x -> x.delivered(message));
            noIndex(no, "attempts " + message, x -> x.attempts(message));
            noIndex(no, "due " + message, x -> x.due(message));
        }
    }

    private void draftRanges() {
        String no = "Throws IllegalArgumentException if letters or every is out of range";
        for (int letters : new int[] {0, 501, -1, MIN, MAX}) {
            noArgument(no, "narrow draft, letters " + letters, x -> x.draft(0, letters, 0, false));
            noArgument(no, "wide draft, letters " + letters, x -> x.draft(0, letters, 0, true));
            noArgument(no, "draft, both, letters " + letters, x -> x.draft(0, letters, 51, false));
        }
        for (int every : new int[] {-1, 51, MIN, MAX}) {
            noArgument(no, "narrow draft, every " + every, x -> x.draft(0, 2, every, false));
            noArgument(no, "wide draft, every " + every, x -> x.draft(0, 2, every, true));
        }
    }

    private void optionRanges() {
        String no = "Throws IllegalArgumentException if kind or reference is out of range";
        for (int kind : new int[] {-1, 8, MIN, MAX}) {
            noArgument(no, "setOptions, kind " + kind, x -> options(x, 3, kind, 9));
            noArgument(no, "setOptions, kind " + kind + ", NONE", x -> options(x, 1, kind, MessageCentre.NONE));
        }
        for (int reference : new int[] {-2, 100, MIN, MAX}) {
            noArgument(no, "setOptions, reference " + reference, x -> options(x, 3, 1, reference));
        }
    }

    private void rateRanges() {
        String no = "Throws IllegalArgumentException if most or window is out of range";
        for (int most : new int[] {-1, 41, MIN, MAX}) {
            noArgument(no, "setRate, most " + most, x -> x.setRate(0, most, 1));
        }
        for (int window : new int[] {0, 201, -1, MIN, MAX}) {
            noArgument(no, "setRate, window " + window, x -> x.setRate(0, 40, window));
        }
    }

    private void submitRanges() {
        String no = "Throws IllegalArgumentException if priority or validity is out of range";
        for (int priority : new int[] {-1, 4, MIN, MAX}) {
            noArgument(no, "submit, priority " + priority, x -> x.submit(3, 0, priority, 500));
        }
        for (int validity : new int[] {0, 501, -1, MIN, MAX}) {
            noArgument(no, "submit, validity " + validity, x -> x.submit(3, 0, 0, validity));
        }
    }

    private void recipientRanges() {
        for (int mode : new int[] {-1, 4, MIN, MAX}) {
            String no = "Throws IllegalArgumentException if mode is out of range";
            noArgument(no, "setMode " + mode, x -> x.setMode(1, mode));
        }
        String no = "Throws IllegalArgumentException if parts is out of range";
        for (int parts : new int[] {-1, 51, MIN, MAX}) {
            noArgument(no, "setRoom " + parts, x -> x.setRoom(4, parts));
        }
        for (int parts : new int[] {0, 51, -1, MIN, MAX}) {
            noArgument(no, "read " + parts, x -> x.read(5, parts));
        }
    }

    private void tickRange() {
        for (int ticks : new int[] {0, 101, -1, MIN, MAX}) {
            noArgument("Throws IllegalArgumentException if ticks is out of range", "pass " + ticks, x -> x.pass(ticks));
        }
    }

    /** For an account that is throttled, or with 40 messages there. */
    private void noSubmission(int account) {
        String state = "if it is not known again, and the account is throttled, or there are 40 messages";
        noState(state, "submit " + account, x -> x.submit(account, 1, 0, 500));
        noState(state, "submit greatest " + account, x -> x.submit(account, 5, 3, 1));
        String first = "If several apply, the one that is named first in the throws clause is thrown.";
        noArgument(first, "submit, priority", x -> x.submit(account, 1, 4, 500));
        noArgument(first, "submit, validity", x -> x.submit(account, 1, 0, 0));
        noIndex(first, "submit, recipient", x -> x.submit(account, 6, 4, 0));
        noIndex(first, "submit, account", x -> x.submit(4, 1, 0, 500));
    }

    private void ended() {
        for (int message = 1; message <= 4; message++) {
            int ended = message;
            String state = "Throws IllegalStateException if it does not wait";
            noState(state, "delete, state " + ended, x -> x.delete(ended));
            noState(state, "due, state " + ended, x -> x.due(ended));
        }
    }

    private void noPart() {
        String no = "Throws IndexOutOfBoundsException if there is no such message or part";
        for (int part : new int[] {-1, 1, 2, 8, MIN, MAX}) {
            noIndex(no, "lettersIn of one part " + part, x -> x.lettersIn(1, part));
        }
        for (int part : new int[] {-1, 2, 3, 8, MIN, MAX}) {
            noIndex(no, "lettersIn of two parts " + part, x -> x.lettersIn(6, part));
        }
    }

    private void noReceipt() {
        noState("Throws IllegalStateException if it has none", "takeReceipt", x -> x.takeReceipt(3));
    }

    private void knownAgain() {
        String no = "Throws IllegalArgumentException if priority or validity is out of range";
        noArgument(no, "submit again, priority", x -> x.submit(1, 0, 4, 500));
        noArgument(no, "submit again, validity", x -> x.submit(1, 0, 0, 501));
        noIndex("If several apply, the one that is named first in the throws clause is thrown.",
                "submit again, recipient", x -> x.submit(1, 6, 4, 501));
    }
}

/**
 * Runs of 512 calls, always the same ones, on the class and on PlainCentre; each call must be
 * answered alike.
 */
public final class RandomRuns {
    private static final int RUNS = 8_000;
    private static final int CALLS = 512;

    private static final Check check = new Check();

    private final MessageCentre real = new MessageCentre();
    private final PlainCentre plain = new PlainCentre();
    private final int run;
    private long seed;
    /** How many ticks pass at most in a call of this run. */
    private final int longest;
    private final int accounts;
    private final int recipients;

    private RandomRuns(int run) {
        this.run = run;
        seed = run * 7919L + 1;
        longest = new int[] {3, 12, 40, 100}[run % 4];
        accounts = 1 + run / 4 % 4;
        recipients = 1 + run / 16 % 6;
    }

    public static void main(String[] args) {
        for (int run = 0; run < RUNS; run++) {
            new RandomRuns(run).calls();
        }
        check.end("RandomRuns");
    }

    private void calls() {
        for (int i = 0; i < CALLS; i++) {
            check.about("run " + run + " call " + i);
            if (any(3) == 0) {
                change();
            } else if (any(3) == 0 || plain.sent.isEmpty()) {
                askCentre();
            } else {
                askMessage(plain.sent.get(any(plain.sent.size())));
            }
        }
    }

    /** From 0 to one less than the bound. */
    private int any(int bound) {
        seed = seed * 6364136223846793005L + 1442695040888963407L;
        return (int) ((seed >>> 33) % bound);
    }

    private boolean anyTruth() {
        return any(2) == 1;
    }

    private void change() {
        int account = any(accounts);
        int recipient = any(recipients);
        switch (any(16)) {
            case 0 -> anyDraft(account);
            case 1 -> anyOptions(account);
            case 2 -> anyRate(account);
            case 3, 4, 5 -> anySubmission(account, recipient);
            case 6, 7 -> anyMode(recipient);
            case 8 -> anyRoom(recipient);
            case 9 -> {
                int parts = 1 + any(anyTruth() ? 3 : 50);
                check.equal("read", plain.read(recipient, parts), real.read(recipient, parts));
            }
            case 10 -> anyDeletion();
            case 11 -> same("takeReceipt", () -> plain.takeReceipt(account), () -> real.takeReceipt(account));
            default -> {
                int ticks = 1 + any(longest);
                check.equal("pass", plain.pass(ticks), real.pass(ticks));
            }
        }
    }

    private void anyDraft(int account) {
        int letters = 1 + any(anyTruth() ? 160 : 500);
        int every = any(anyTruth() ? 5 : 51);
        boolean wide = anyTruth();
        check.equal("draft", plain.draft(account, letters, every, wide), real.draft(account, letters, every, wide));
    }

    private void anyOptions(int account) {
        int kind = any(3);
        int reference = anyTruth() ? MessageCentre.NONE : any(3);
        boolean receipt = any(4) > 0;
        plain.setOptions(account, kind, reference, receipt);
        real.setOptions(account, kind, reference, receipt);
    }

    private void anyRate(int account) {
        int most = anyTruth() ? any(5) : any(41);
        int window = 1 + any(anyTruth() ? 10 : 200);
        check.equal("setRate", plain.setRate(account, most, window), real.setRate(account, most, window));
    }

    private void anySubmission(int account, int recipient) {
        int priority = any(4);
        int validity = 1 + any(anyTruth() ? 2 * longest : 500);
        same("submit", () -> plain.submit(account, recipient, priority, validity),
                () -> real.submit(account, recipient, priority, validity));
    }

    private void anyMode(int recipient) {
        int mode = any(10) == 0 ? MessageCentre.BARRED : any(3);
        check.equal("setMode", plain.setMode(recipient, mode), real.setMode(recipient, mode));
    }

    private void anyRoom(int recipient) {
        int parts = any(anyTruth() ? 6 : 51);
        check.equal("setRoom", plain.setRoom(recipient, parts), real.setRoom(recipient, parts));
    }

    private void anyDeletion() {
        if (!plain.sent.isEmpty() && any(3) == 0) {
            int message = any(plain.sent.size());
            same("delete", () -> plain.delete(message), () -> real.delete(message));
        }
    }

    private static void same(String call, Check.Call want, Check.Call got) {
        check.equal(call, answerOf(want), answerOf(got));
    }

    /** The answer, or -7 for an IllegalStateException: no call of the class answers that. */
    private static long answerOf(Check.Call call) {
        try {
            return call.answer();
        } catch (IllegalStateException thrown) {
            return -7;
        }
    }

    private void askCentre() {
        int account = any(4);
        int recipient = any(recipients);
        switch (any(8)) {
            case 0 -> check.equal("now", plain.now, real.now());
            case 1 -> check.equal("messages", plain.sent.size(), real.messages());
            case 2 -> check.equal("share", plain.share(), real.share());
            case 3 -> check.equal("receipts", plain.receipts.get(account).size(), real.receipts(account));
            case 4 -> check.equal("inRoom", plain.inside[recipient], real.inRoom(recipient));
            case 5 -> check.equal("marks", plain.marks(recipient), real.marks(recipient));
            case 6 -> check.equal("waiting", plain.waitingFor(recipient).size(), real.waiting(recipient));
            default -> check.equal("next", plain.next(recipient), real.next(recipient));
        }
    }

    private void askMessage(PlainCentre.Sent message) {
        int number = message.number;
        switch (any(8)) {
            case 0 -> check.equal("state", message.state, real.state(number));
            case 1 -> check.equal("stateByLog", message.state, real.stateByLog(number));
            case 2 -> check.equal("delivered", message.came, real.delivered(number));
            case 3 -> check.equal("attempts", message.attempts, real.attempts(number));
            case 4 -> check.equal("parts", message.parts.size(), real.parts(number));
            case 5 -> {
                int part = any(message.parts.size());
                check.equal("lettersIn", message.parts.get(part), real.lettersIn(number, part));
            }
            default -> same("due", () -> plain.due(number), () -> real.due(number));
        }
    }
}

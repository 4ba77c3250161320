/**
 * Runs of 512 calls, always the same ones, on the class and on PlainCentre; after each call all
 * that can be asked must be answered alike.
 */
public final class RandomRuns {
    private static final int RUNS = 600;
    private static final int CALLS = 512;

    private static final Check check = new Check();

    private final MessageCentre real = new MessageCentre();
    private final PlainCentre plain = new PlainCentre();
    private final String name;
    private long seed;
    /** How long the ticks and validities of this run are at most. */
    private final int longest;
    private final int accounts;
    private final int recipients;

    private RandomRuns(int run) {
        name = "run " + run;
        seed = run * 7919L + 1;
        longest = new int[] {3, 12, 40, 100}[run % 4];
        accounts = 1 + run / 4 % 4;
        recipients = 1 + run / 16 % 6;
    }

    public static void main(String[] args) {
        for (int run = 0; run < RUNS; run++) {
            new RandomRuns(run).calls();
        }
        check.end("RandomRuns");
    }

    private void calls() {
        for (int i = 0; i < CALLS; i++) {
            String call = name + " call " + i + " ";
            oneCall(call);
            compareCentre(call);
            compareMessages(call);
        }
    }

    /** From 0 to one less than the bound. */
    private int any(int bound) {
        seed = seed * 6364136223846793005L + 1442695040888963407L;
        return (int) ((seed >>> 33) % bound);
    }

    private boolean anyTruth() {
        return any(2) == 1;
    }

    private void oneCall(String call) {
        int account = any(accounts);
        int recipient = any(recipients);
        switch (any(16)) {
            case 0 -> anyDraft(call, account);
            case 1 -> anyOptions(account);
            case 2 -> anyRate(call, account);
            case 3, 4, 5 -> anySubmission(call, account, recipient);
            case 6, 7 -> anyMode(call, recipient);
            case 8 -> anyRoom(call, recipient);
            case 9 -> {
                int parts = 1 + any(anyTruth() ? 3 : 50);
                check.equal(call + "read", plain.read(recipient, parts), real.read(recipient, parts));
            }
            case 10 -> {
                int message = any(40);
                if (message < plain.sent.size() && any(4) == 0) {
                    same(call + "delete", () -> plain.delete(message), () -> real.delete(message));
                }
            }
            case 11 -> same(call + "take", () -> plain.takeReceipt(account), () -> real.takeReceipt(account));
            default -> {
                int ticks = 1 + any(longest);
                check.equal(call + "pass", plain.pass(ticks), real.pass(ticks));
            }
        }
    }

    private void anyDraft(String call, int account) {
        int letters = 1 + any(anyTruth() ? 160 : 500);
        int every = any(anyTruth() ? 5 : 51);
        boolean wide = anyTruth();
        check.equal(call + "draft", plain.draft(account, letters, every, wide),
                real.draft(account, letters, every, wide));
    }

    private void anyOptions(int account) {
        int kind = any(3);
        int reference = anyTruth() ? MessageCentre.NONE : any(3);
        boolean receipt = any(4) > 0;
        plain.setOptions(account, kind, reference, receipt);
        real.setOptions(account, kind, reference, receipt);
    }

    private void anyRate(String call, int account) {
        int most = anyTruth() ? any(5) : any(41);
        int window = 1 + any(anyTruth() ? 10 : 200);
        check.equal(call + "rate", plain.setRate(account, most, window), real.setRate(account, most, window));
    }

    private void anySubmission(String call, int account, int recipient) {
        int priority = any(4);
        int validity = 1 + any(anyTruth() ? 2 * longest : 500);
        same(call + "submit", () -> plain.submit(account, recipient, priority, validity),
                () -> real.submit(account, recipient, priority, validity));
    }

    private void anyMode(String call, int recipient) {
        int mode = any(10) == 0 ? MessageCentre.BARRED : any(3);
        check.equal(call + "mode", plain.setMode(recipient, mode), real.setMode(recipient, mode));
    }

    private void anyRoom(String call, int recipient) {
        int parts = any(anyTruth() ? 6 : 51);
        check.equal(call + "room", plain.setRoom(recipient, parts), real.setRoom(recipient, parts));
    }

    private static void same(String call, Check.Call want, Check.Call got) {
        check.equal(call, answerOf(want), answerOf(got));
    }

    /** The answer, or -7 for an IllegalStateException: no call of the class answers that. */
    private static long answerOf(Check.Call call) {
        try {
            return call.answer();
        } catch (IllegalStateException thrown) {
            return -7;
        }
    }

    private void compareCentre(String call) {
        check.equal(call + "now", plain.now, real.now());
        check.equal(call + "messages", plain.sent.size(), real.messages());
        check.equal(call + "share", plain.share(), real.share());
        for (int account = 0; account < 4; account++) {
            check.equal(call + "receipts", plain.receipts.get(account).size(), real.receipts(account));
        }
        for (int recipient = 0; recipient < 6; recipient++) {
            check.equal(call + "inRoom", plain.inside[recipient], real.inRoom(recipient));
            check.equal(call + "marks", plain.marks(recipient), real.marks(recipient));
            check.equal(call + "waiting", plain.waitingFor(recipient).size(), real.waiting(recipient));
            check.equal(call + "next", plain.next(recipient), real.next(recipient));
        }
    }

    private void compareMessages(String call) {
        for (PlainCentre.Sent message : plain.sent) {
            int number = message.number;
            String what = call + "message " + number + " ";
            check.equal(what + "state", message.state, real.state(number));
            check.equal(what + "state by log", message.state, real.stateByLog(number));
            check.equal(what + "delivered", message.came, real.delivered(number));
            check.equal(what + "attempts", message.attempts, real.attempts(number));
            check.equal(what + "parts", message.parts.size(), real.parts(number));
            int part = any(message.parts.size());
            check.equal(what + "letters", message.parts.get(part), real.lettersIn(number, part));
            same(what + "due", () -> plain.due(number), () -> real.due(number));
        }
    }
}

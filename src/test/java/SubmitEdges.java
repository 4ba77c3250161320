/** For each sentence about messages and submitting that names a boundary case, a test of its own. */
public final class SubmitEdges {
    private static final int NONE = MessageCentre.NONE;

    private static final Check check = new Check();

    public static void main(String[] args) {
        numberedFromZero();
        atMostForty();
        fortyThoughTheyEnded();
        textAtSubmission();
        optionsAtSubmission();
        kindZeroAtFirst();
        noReferenceAtFirst();
        noReceiptWantedAtFirst();
        waitsFromThenOn();
        waitsUntilItEnds();
        dueAtSubmission();
        knownForLessThanThirtyTicks();
        knownOnlyWithAReference();
        referencesFromZeroToNinetyNine();
        knownOnlyOfSameAccountRecipientReference();
        theLatestOneIsTold();
        knownAgainThoughEnded();
        knownAgainThoughThrottledOrForty();
        knownAgainChangesNothing();
        knownAgainReplacesNothing();
        knownAgainIsNoSubmission();
        rateAtFirst();
        asManyAsTheRateAllows();
        moreThanTheRateAllows();
        rateZero();
        rateForty();
        shortestWindow();
        longestWindow();
        ticksAgoInTheWindow();
        allSubmissionsOfTheAccountCount();
        onlySubmissionsOfTheAccountCount();
        refusedSubmissionsDoNotCount();
        kindZeroReplacesNothing();
        kindsOneToSevenReplace();
        onlySameKindAccountRecipient();
        kindAtSubmissionReplaces();
        onlyWithoutADeliveredPart();
        attemptedIsReplaced();
        onlyWaitingOnesAreReplaced();
        refusedSubmissionReplacesNothing();
        deleteTellsParts();
        deleteOnlyWhatWaits();
        endedOnesAreMessages();
        check.end("SubmitEdges");
    }

    private static void numberedFromZero() {
        check.sentence("Messages are numbered from 0");
        MessageCentre x = new MessageCentre();
        check.equal("none", 0, x.messages());
        check.equal("first", 0, x.submit(3, 5, 3, 500));
        check.equal("one", 1, x.messages());
        check.equal("second", 1, x.submit(0, 0, 0, 1));
        check.equal("two", 2, x.messages());
    }

    /** One message a tick, so that no account is throttled. */
    private static MessageCentre withMessages(int messages, int validity) {
        MessageCentre x = new MessageCentre();
        x.setRate(0, 40, 1);
        for (int i = 0; i < messages; i++) {
            x.submit(0, i % 6, 0, validity);
            x.pass(1);
        }
        return x;
    }

    private static void atMostForty() {
        check.sentence("at most 40");
        MessageCentre x = withMessages(39, 500);
        check.equal("the fortieth", 39, x.submit(0, 0, 0, 500));
        x.pass(1);
        check.noState("one more", () -> x.submit(0, 0, 0, 500));
        check.noState("one more of another account", () -> x.submit(3, 5, 0, 500));
        check.equal("forty", 40, x.messages());
    }

    private static void fortyThoughTheyEnded() {
        check.sentence("or there are 40 messages");
        MessageCentre x = withMessages(40, 2);
        Given.pass(x, 300);
        check.equal("none waits", 0, x.waiting(0));
        check.noState("though none waits", () -> x.submit(0, 0, 0, 500));
    }

    private static void textAtSubmission() {
        check.sentence("A message has the text and the options that its account has when it is submitted");
        MessageCentre x = Given.parts(3);
        x.submit(0, 0, 0, 500);
        x.draft(0, 160, 0, false);
        x.submit(0, 0, 0, 500);
        x.draft(0, 500, 1, false);
        check.equal("the first draft", new int[] {67, 67, 31}, Given.letters(x, 0));
        check.equal("the second draft", new int[] {160}, Given.letters(x, 1));
    }

    private static void optionsAtSubmission() {
        check.sentence("A message has the text and the options that its account has when it is submitted");
        MessageCentre x = new MessageCentre();
        x.setOptions(0, 0, 7, true);
        x.submit(0, 0, 0, 500);
        x.setOptions(0, 0, 8, false);
        x.submit(0, 0, 0, 500);
        x.setOptions(0, 0, 7, false);
        check.equal("the reference is the first one's", 0, x.submit(0, 0, 0, 500));
        x.setOptions(0, 0, 8, true);
        check.equal("the reference is the second one's", 1, x.submit(0, 0, 0, 500));
        x.delete(1);
        x.delete(0);
        check.equal("only the first one's receipt was wanted", new int[] {3}, Given.receipts(x, 0));
    }

    private static void kindZeroAtFirst() {
        check.sentence("a kind, 0 at first");
        for (int account = 0; account < 4; account++) {
            MessageCentre x = new MessageCentre();
            x.submit(account, 0, 0, 500);
            x.submit(account, 0, 0, 500);
            check.equal("account " + account, 2, x.waiting(0));
        }
    }

    private static void noReferenceAtFirst() {
        check.sentence("a reference, NONE at first");
        for (int account = 0; account < 4; account++) {
            MessageCentre x = new MessageCentre();
            check.equal("first of account " + account, 0, x.submit(account, 0, 0, 500));
            check.equal("second of account " + account, 1, x.submit(account, 0, 0, 500));
        }
    }

    private static void noReceiptWantedAtFirst() {
        check.sentence("whether a receipt is wanted, which it is not at first");
        for (int account = 0; account < 4; account++) {
            MessageCentre x = new MessageCentre();
            x.delete(x.submit(account, 0, 0, 500));
            check.equal("account " + account, 0, x.receipts(account));
        }
    }

    private static void waitsFromThenOn() {
        check.sentence("It waits from then on");
        MessageCentre x = new MessageCentre();
        x.setMode(0, MessageCentre.BARRED);
        x.submit(0, 0, 0, 1);
        check.equal("state", MessageCentre.WAITING, x.state(0));
        check.equal("state by log", MessageCentre.WAITING, x.stateByLog(0));
        check.equal("for its recipient", 1, x.waiting(0));
        check.equal("no attempt yet", 0, x.attempts(0));
        check.equal("no part yet", 0, x.delivered(0));
    }

    private static void waitsUntilItEnds() {
        check.sentence("until it is delivered, expired, deleted or refused");
        MessageCentre x = Given.allStates();
        for (int state = 0; state <= 4; state++) {
            check.equal("state", state, x.state(state));
            check.equal("state by log", state, x.stateByLog(state));
            check.equal("waiting for " + state, state == 0 ? 1 : 0, x.waiting(state));
        }
        x.setMode(2, MessageCentre.PRESENT);
        x.setMode(4, MessageCentre.PRESENT);
        check.equal("what ended is not attempted", 0, x.pass(7));
        check.equal("what ended stays so", new int[] {0, 1, 2, 3, 4}, Given.states(x));
    }

    private static void dueAtSubmission() {
        check.sentence("It is due at some tick, first at that at which it is submitted.");
        MessageCentre x = new MessageCentre();
        x.submit(0, 0, 0, 500);
        check.equal("at tick 0", 0, x.due(0));
        x.delete(0);
        Given.pass(x, 107);
        x.submit(0, 0, 0, 500);
        check.equal("at tick 107", 107, x.due(1));
        check.equal("attempted with the next tick", 1, x.pass(1));
    }

    /** What is told for the reference of a message so many ticks later. */
    private static int submittedAgainAfter(int ticks) {
        MessageCentre x = new MessageCentre();
        x.setOptions(0, 0, 5, false);
        x.submit(0, 0, 0, 500);
        Given.pass(x, ticks);
        return x.submit(0, 0, 0, 500);
    }

    private static void knownForLessThanThirtyTicks() {
        check.sentence("less than 30 ticks ago");
        check.equal("0 ticks ago", 0, submittedAgainAfter(0));
        check.equal("1 tick ago", 0, submittedAgainAfter(1));
        check.equal("29 ticks ago", 0, submittedAgainAfter(29));
        check.equal("30 ticks ago", 1, submittedAgainAfter(30));
        check.equal("31 ticks ago", 1, submittedAgainAfter(31));
    }

    private static void knownOnlyWithAReference() {
        check.sentence("If the account has a reference");
        MessageCentre x = new MessageCentre();
        x.submit(0, 0, 0, 500);
        check.equal("none, and none before", 1, x.submit(0, 0, 0, 500));
        x.setOptions(0, 0, 5, false);
        check.equal("one, but none before", 2, x.submit(0, 0, 0, 500));
        x.setOptions(0, 0, NONE, false);
        check.equal("none, but one before", 3, x.submit(0, 0, 0, 500));
    }

    private static void referencesFromZeroToNinetyNine() {
        check.sentence("reference: 0 to 99, or NONE");
        MessageCentre x = new MessageCentre();
        int[] references = {0, 1, 98, 99};
        for (int i = 0; i < references.length; i++) {
            x.setOptions(0, 0, references[i], false);
            check.equal("not known: " + references[i], i, x.submit(0, 0, 0, 500));
            check.equal("known again: " + references[i], i, x.submit(0, 0, 0, 500));
        }
    }

    private static void knownOnlyOfSameAccountRecipientReference() {
        check.sentence("has submitted a message with this reference to the same recipient");
        MessageCentre x = new MessageCentre();
        x.setOptions(0, 0, 5, false);
        x.setOptions(1, 0, 5, false);
        x.submit(0, 0, 0, 500);
        check.equal("another recipient", 1, x.submit(0, 1, 0, 500));
        check.equal("another account", 2, x.submit(1, 0, 0, 500));
        x.setOptions(0, 0, 6, false);
        check.equal("another reference", 3, x.submit(0, 0, 0, 500));
        x.setOptions(0, 7, 5, true);
        check.equal("another kind, priority and validity", 0, x.submit(0, 0, 3, 1));
    }

    private static void theLatestOneIsTold() {
        check.sentence("that is told, and nothing changes (of several the latest one)");
        MessageCentre x = new MessageCentre();
        x.setOptions(0, 0, 5, false);
        x.submit(0, 0, 0, 500);
        x.pass(30);
        check.equal("not known any more", 1, x.submit(0, 0, 0, 500));
        check.equal("the latest", 1, x.submit(0, 0, 0, 500));
        x.pass(29);
        check.equal("the latest still", 1, x.submit(0, 0, 0, 500));
    }

    private static void knownAgainThoughEnded() {
        check.sentence("has submitted a message with this reference");
        MessageCentre x = new MessageCentre();
        x.setOptions(0, 0, 5, false);
        x.setMode(2, MessageCentre.ABSENT);
        x.setMode(4, MessageCentre.BARRED);
        for (int recipient = 1; recipient <= 4; recipient++) {
            x.submit(0, recipient, 0, 2);
        }
        x.delete(2);
        x.pass(2);
        check.equal("all ended", new int[] {1, 2, 3, 4}, Given.states(x));
        for (int recipient = 1; recipient <= 4; recipient++) {
            check.equal("ended as " + recipient, recipient - 1, x.submit(0, recipient, 0, 2));
        }
        check.equal("none is there anew", 4, x.messages());
    }

    private static void knownAgainThoughThrottledOrForty() {
        check.sentence("if it is not known again, and the account is throttled, or there are 40 messages");
        MessageCentre x = withMessages(39, 500);
        x.setOptions(0, 0, 5, false);
        check.equal("the fortieth", 39, x.submit(0, 0, 0, 500));
        check.equal("known again of forty", 39, x.submit(0, 0, 0, 500));
        x.setRate(0, 0, 200);
        check.equal("known again, though throttled", 39, x.submit(0, 0, 0, 500));
        check.noState("not known", () -> x.submit(0, 1, 0, 500));
    }

    private static void knownAgainChangesNothing() {
        check.sentence("that is told, and nothing changes");
        MessageCentre x = new MessageCentre();
        x.setOptions(0, 1, NONE, true);
        x.submit(0, 0, 1, 500);
        x.setOptions(0, 2, 5, false);
        x.submit(0, 0, 0, 3);
        Given.draftParts(x, 0, 3);
        x.setOptions(0, 1, 5, true);
        check.equal("known again", 1, x.submit(0, 0, 3, 500));
        check.equal("two messages", 2, x.messages());
        check.equal("no kind is replaced", new int[] {0, 0}, Given.states(x));
        check.equal("the text stays", new int[] {1}, Given.letters(x, 1));
        check.equal("the priority stays", 0, x.next(0));
        x.setMode(0, MessageCentre.BUSY);
        x.pass(3);
        check.equal("the validity stays", new int[] {0, 2}, Given.states(x));
        check.equal("no receipt", 0, x.receipts(0));
    }

    private static void knownAgainReplacesNothing() {
        check.sentence("that is told, and nothing changes");
        MessageCentre x = new MessageCentre();
        x.setOptions(0, 2, 5, true);
        x.submit(0, 0, 0, 500);
        x.setOptions(0, 2, 6, true);
        x.submit(0, 0, 0, 500);
        x.setOptions(0, 2, 5, true);
        check.equal("the first, which was replaced", 0, x.submit(0, 0, 0, 500));
        check.equal("the second, which replaced it, waits", new int[] {3, 0}, Given.states(x));
        check.equal("one receipt", new int[] {3}, Given.receipts(x, 0));
    }

    private static void knownAgainIsNoSubmission() {
        check.sentence("that is told, and nothing changes");
        MessageCentre x = new MessageCentre();
        x.setRate(0, 2, 200);
        x.setOptions(0, 0, 5, false);
        x.submit(0, 0, 0, 500);
        x.submit(0, 0, 0, 500);
        x.submit(0, 0, 0, 500);
        check.equal("the second of two", 1, x.submit(0, 1, 0, 500));
        x.pass(29);
        check.equal("known again after 29 ticks", 0, x.submit(0, 0, 0, 500));
        x.pass(1);
        x.setRate(0, 40, 1);
        check.equal("being known again does not begin the 30 ticks anew", 2, x.submit(0, 0, 0, 500));
    }

    private static void submitMany(MessageCentre x, int account, int many) {
        int before = x.messages();
        for (int i = 0; i < many; i++) {
            check.equal("not throttled", before + i, x.submit(account, 0, 0, 500));
        }
    }

    private static void rateAtFirst() {
        check.sentence("the rate is 20 messages and the window 10 ticks at first");
        for (int account = 0; account < 4; account++) {
            int sender = account;
            MessageCentre x = new MessageCentre();
            submitMany(x, sender, 20);
            check.noState("the 21st", () -> x.submit(sender, 0, 0, 500));
            x.pass(9);
            check.noState("9 ticks later", () -> x.submit(sender, 0, 0, 500));
            x.pass(1);
            submitMany(x, sender, 20);
            check.equal("the rate", 20, x.setRate(sender, 1, 1));
        }
    }

    private static void asManyAsTheRateAllows() {
        check.sentence("as many messages as its rate allows");
        MessageCentre x = new MessageCentre();
        x.setRate(0, 3, 5);
        submitMany(x, 0, 3);
        check.noState("the fourth", () -> x.submit(0, 0, 0, 500));
        x.setRate(0, 4, 5);
        submitMany(x, 0, 1);
        check.noState("the fifth", () -> x.submit(0, 0, 0, 500));
        x.setRate(1, 1, 5);
        submitMany(x, 1, 1);
        check.noState("the second", () -> x.submit(1, 0, 0, 500));
    }

    private static void moreThanTheRateAllows() {
        check.sentence("as many messages as its rate allows, or more, it is throttled");
        MessageCentre x = new MessageCentre();
        submitMany(x, 0, 5);
        x.setRate(0, 4, 10);
        check.noState("5 of 4", () -> x.submit(0, 0, 0, 500));
        x.setRate(0, 1, 10);
        check.noState("5 of 1", () -> x.submit(0, 0, 0, 500));
        x.setRate(0, 6, 10);
        submitMany(x, 0, 1);
    }

    private static void rateZero() {
        check.sentence("most: 0 to 40: how many messages");
        MessageCentre x = new MessageCentre();
        x.setRate(0, 0, 1);
        check.noState("none is allowed", () -> x.submit(0, 0, 0, 500));
        x.pass(100);
        check.noState("none later", () -> x.submit(0, 0, 0, 500));
        check.equal("none is there", 0, x.messages());
    }

    private static void rateForty() {
        check.sentence("most: 0 to 40: how many messages");
        MessageCentre x = new MessageCentre();
        x.setRate(0, 40, 200);
        submitMany(x, 0, 40);
        check.equal("forty of one account in one tick", 40, x.messages());
        check.equal("told as the rate before", 40, x.setRate(0, 0, 1));
        check.equal("0 as well", 0, x.setRate(0, 1, 1));
    }

    private static void shortestWindow() {
        check.sentence("window: 1 to 200: in how many ticks");
        MessageCentre x = new MessageCentre();
        x.setRate(0, 1, 1);
        submitMany(x, 0, 1);
        check.noState("0 ticks ago", () -> x.submit(0, 0, 0, 500));
        x.pass(1);
        submitMany(x, 0, 1);
        check.noState("0 ticks ago again", () -> x.submit(0, 0, 0, 500));
    }

    private static void longestWindow() {
        check.sentence("window: 1 to 200: in how many ticks");
        MessageCentre x = new MessageCentre();
        x.setRate(0, 1, 200);
        submitMany(x, 0, 1);
        Given.pass(x, 199);
        check.noState("199 ticks ago", () -> x.submit(0, 0, 0, 500));
        x.pass(1);
        submitMany(x, 0, 1);
    }

    private static void ticksAgoInTheWindow() {
        check.sentence("fewer ticks ago than its window is long");
        MessageCentre x = new MessageCentre();
        x.setRate(0, 2, 4);
        submitMany(x, 0, 1);
        x.pass(2);
        submitMany(x, 0, 1);
        x.pass(1);
        check.noState("3 and 1 ticks ago", () -> x.submit(0, 0, 0, 500));
        x.pass(1);
        submitMany(x, 0, 1);
        check.noState("2 and 0 ticks ago", () -> x.submit(0, 0, 0, 500));
        x.setRate(0, 2, 2);
        submitMany(x, 0, 1);
        x.setRate(0, 3, 3);
        check.noState("the new window counts what was before", () -> x.submit(0, 0, 0, 500));
    }

    private static void allSubmissionsOfTheAccountCount() {
        check.sentence("if the account has submitted");
        MessageCentre x = new MessageCentre();
        x.setRate(0, 3, 10);
        x.submit(0, 0, 0, 500);
        x.submit(0, 1, 0, 500);
        x.submit(0, 2, 0, 1);
        x.delete(1);
        x.pass(1);
        check.equal("none waits", new int[] {1, 3, 2}, Given.states(x));
        check.noState("three all the same", () -> x.submit(0, 3, 0, 500));
    }

    private static void onlySubmissionsOfTheAccountCount() {
        check.sentence("if the account has submitted");
        MessageCentre x = new MessageCentre();
        x.setRate(0, 1, 10);
        x.setRate(1, 0, 10);
        submitMany(x, 2, 20);
        check.equal("of account 0", 20, x.submit(0, 0, 0, 500));
        check.noState("of account 1", () -> x.submit(1, 0, 0, 500));
        check.equal("of account 3", 21, x.submit(3, 0, 0, 500));
    }

    private static void refusedSubmissionsDoNotCount() {
        check.sentence("A call that throws changes nothing.");
        MessageCentre x = new MessageCentre();
        x.setRate(0, 1, 3);
        submitMany(x, 0, 1);
        x.pass(2);
        check.noState("throttled", () -> x.submit(0, 0, 0, 500));
        x.pass(1);
        submitMany(x, 0, 1);
    }

    private static void kindZeroReplacesNothing() {
        check.sentence("if its kind is not 0");
        MessageCentre x = new MessageCentre();
        x.setOptions(0, 3, NONE, false);
        x.submit(0, 0, 0, 500);
        x.setOptions(0, 0, NONE, false);
        x.submit(0, 0, 0, 500);
        x.submit(0, 0, 0, 500);
        check.equal("all wait", new int[] {0, 0, 0}, Given.states(x));
    }

    private static void kindsOneToSevenReplace() {
        check.sentence("kind: 0 to 7");
        for (int kind = 1; kind <= 7; kind++) {
            MessageCentre x = new MessageCentre();
            x.setOptions(0, kind, NONE, true);
            x.submit(0, 0, 0, 500);
            check.equal("the second of kind " + kind, 1, x.submit(0, 0, 0, 500));
            check.equal("kind " + kind, new int[] {MessageCentre.DELETED, MessageCentre.WAITING}, Given.states(x));
            check.equal("and by log", MessageCentre.DELETED, x.stateByLog(0));
            check.equal("one waits", 1, x.waiting(0));
            check.equal("receipt", new int[] {3}, Given.receipts(x, 0));
        }
    }

    private static void onlySameKindAccountRecipient() {
        check.sentence("all other waiting messages of the account with this kind to the same recipient");
        MessageCentre x = new MessageCentre();
        x.setOptions(0, 1, NONE, false);
        x.setOptions(1, 2, NONE, false);
        x.submit(0, 0, 0, 500);
        x.submit(1, 0, 0, 500);
        x.setOptions(0, 2, NONE, false);
        x.submit(0, 1, 0, 500);
        x.submit(0, 0, 0, 500);
        check.equal("another kind, account, recipient", new int[] {0, 0, 0, 0}, Given.states(x));
        x.submit(0, 0, 0, 500);
        check.equal("only the same", new int[] {0, 0, 0, 3, 0}, Given.states(x));
    }

    private static void kindAtSubmissionReplaces() {
        check.sentence("with this kind");
        MessageCentre x = new MessageCentre();
        x.setOptions(0, 1, NONE, false);
        x.submit(0, 0, 0, 500);
        x.setOptions(0, 2, NONE, false);
        x.submit(0, 0, 0, 500);
        x.setOptions(0, 1, NONE, false);
        x.submit(0, 0, 0, 500);
        check.equal("the kinds are those at submission", new int[] {3, 0, 0}, Given.states(x));
    }

    private static void onlyWithoutADeliveredPart() {
        check.sentence("of which no part was delivered");
        MessageCentre x = Given.parts(2);
        x.setOptions(0, 1, NONE, false);
        x.submit(0, 0, 1, 500);
        x.pass(1);
        x.submit(0, 0, 0, 500);
        check.equal("one part was", new int[] {0, 0}, Given.states(x));
        x.submit(0, 0, 0, 500);
        check.equal("none was", new int[] {0, 3, 0}, Given.states(x));
    }

    private static void attemptedIsReplaced() {
        check.sentence("of which no part was delivered");
        MessageCentre x = new MessageCentre();
        x.setMode(0, MessageCentre.BUSY);
        x.setOptions(0, 1, NONE, false);
        x.submit(0, 0, 0, 500);
        x.pass(1);
        x.submit(0, 0, 0, 500);
        check.equal("one attempt, no part", new int[] {3, 0}, Given.states(x));
    }

    private static void onlyWaitingOnesAreReplaced() {
        check.sentence("all other waiting messages");
        MessageCentre x = new MessageCentre();
        x.setOptions(0, 1, NONE, true);
        x.setMode(0, MessageCentre.ABSENT);
        x.submit(0, 0, 0, 1);
        x.pass(1);
        x.submit(0, 0, 0, 500);
        check.equal("expired stays", new int[] {2, 0}, Given.states(x));
        x.setMode(0, MessageCentre.BARRED);
        x.pass(1);
        x.submit(0, 0, 0, 500);
        check.equal("refused stays", new int[] {2, 4, 0}, Given.states(x));
        check.equal("no receipt a second time", new int[] {2, 14}, Given.receipts(x, 0));
    }

    private static void refusedSubmissionReplacesNothing() {
        check.sentence("A call that throws changes nothing.");
        MessageCentre x = new MessageCentre();
        x.setOptions(0, 1, NONE, true);
        x.submit(0, 0, 0, 500);
        x.setRate(0, 1, 200);
        check.noState("throttled", () -> x.submit(0, 0, 0, 500));
        check.noArgument("priority", () -> x.submit(0, 0, 4, 500));
        check.noArgument("validity", () -> x.submit(0, 0, 0, 501));
        check.equal("the first one waits", MessageCentre.WAITING, x.state(0));
        check.equal("no receipt", 0, x.receipts(0));
    }

    private static void deleteTellsParts() {
        check.sentence("Returns how many of its parts were delivered.");
        MessageCentre x = Given.parts(8);
        x.submit(0, 0, 0, 500);
        x.submit(0, 1, 0, 500);
        x.submit(0, 2, 0, 500);
        check.equal("none", 0, x.delete(0));
        x.pass(1);
        check.equal("one", 1, x.delete(1));
        x.pass(6);
        check.equal("all but the last", 7, x.delete(2));
        check.equal("they stay in the room", 7, x.inRoom(2));
        check.equal("and are told", 7, x.delivered(2));
    }

    private static void deleteOnlyWhatWaits() {
        check.sentence("Throws IllegalStateException if it does not wait");
        MessageCentre x = Given.allStates();
        for (int message = 1; message <= 4; message++) {
            int ended = message;
            check.noState("delete, state " + ended, () -> x.delete(ended));
            check.noState("due, state " + ended, () -> x.due(ended));
            check.equal("the state stays", ended, x.state(ended));
        }
        check.equal("what waits is deleted", 0, x.delete(0));
        check.noState("only once", () -> x.delete(0));
    }

    private static void endedOnesAreMessages() {
        check.sentence("Returns how many messages there are.");
        MessageCentre x = Given.allStates();
        check.equal("five, four of which ended", 5, x.messages());
        x.delete(0);
        check.equal("none waits", 5, x.messages());
    }
}

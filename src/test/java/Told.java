/** All that a centre can be asked without a change, as a text. */
final class Told {
    private Told() {
    }

    static String of(MessageCentre x) {
        StringBuilder text = new StringBuilder();
        text.append(x.now()).append(' ').append(x.share());
        for (int account = 0; account < 4; account++) {
            text.append(' ').append(x.receipts(account));
        }
        for (int recipient = 0; recipient < 6; recipient++) {
            text.append(' ').append(x.inRoom(recipient)).append(' ').append(x.marks(recipient));
            text.append(' ').append(x.waiting(recipient)).append(' ').append(x.next(recipient));
        }
        for (int message = 0; message < x.messages(); message++) {
            appendMessage(text, x, message);
        }
        return text.toString();
    }

    private static void appendMessage(StringBuilder text, MessageCentre x, int message) {
        int state = x.state(message);
        text.append(", ").append(state).append(' ').append(x.stateByLog(message));
        text.append(' ').append(x.delivered(message)).append(' ').append(x.attempts(message));
        for (int letters : Given.letters(x, message)) {
            text.append(' ').append(letters);
        }
        if (state == MessageCentre.WAITING) {
            text.append(' ').append(x.due(message));
        }
    }
}

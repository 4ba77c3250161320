import java.util.ArrayDeque;
import java.util.ArrayList;
import java.util.Comparator;
import java.util.Deque;
import java.util.HashMap;
import java.util.List;
import java.util.Map;
import java.util.Optional;

/**
 * The document told a second time, with the Java library and without a thought for its cost, for
 * the random runs to compare with. It takes arguments in their ranges only.
 */
final class PlainCentre {
    static final class Text {
        final List<Integer> letterSizes = new ArrayList<>();
        boolean wide = false;

        static Text of(int letters, int every, boolean wide) {
            Text text = new Text();
            text.wide = wide;
            for (int letter = 1; letter <= letters; letter++) {
                boolean two = !wide && every != 0 && letter % every == 0;
                text.letterSizes.add(two ? 2 : 1);
            }
            return text;
        }

        List<Integer> parts() {
            int places = letterSizes.stream().mapToInt(size -> size).sum();
            if (places <= (wide ? 70 : 160)) {
                return List.of(letterSizes.size());
            }
            List<Integer> parts = new ArrayList<>();
            int left = 0;
            for (int size : letterSizes) {
                if (size > left) {
                    parts.add(0);
                    left = wide ? 67 : 153;
                }
                parts.set(parts.size() - 1, parts.get(parts.size() - 1) + 1);
                left -= size;
            }
            return parts;
        }
    }

    static final class Sent {
        int number;
        int account;
        int recipient;
        int priority;
        int lastTick;
        int submitted;
        int kind;
        int reference;
        boolean receipt;
        List<Integer> parts;
        int state = MessageCentre.WAITING;
        int came = 0;
        int attempts = 0;
        int due;
        Map<String, Integer> failures = new HashMap<>();

        boolean waits() {
            return state == MessageCentre.WAITING;
        }

        int dueAt() {
            return due;
        }
    }

    final Text[] drafts = new Text[4];
    final int[] kinds = new int[4];
    final int[] references = {-1, -1, -1, -1};
    final boolean[] receiptsWanted = new boolean[4];
    final int[] most = {20, 20, 20, 20};
    final int[] windows = {10, 10, 10, 10};
    final List<Deque<Integer>> receipts = new ArrayList<>();
    final int[] modes = new int[6];
    final int[] rooms = {10, 10, 10, 10, 10, 10};
    final int[] inside = new int[6];
    final boolean[] markedAbsent = new boolean[6];
    final boolean[] markedFull = new boolean[6];
    final List<Sent> sent = new ArrayList<>();
    int now = 0;

    PlainCentre() {
        for (int account = 0; account < 4; account++) {
            receipts.add(new ArrayDeque<>());
            draft(account, 1, 0, false);
        }
    }

    int draft(int account, int letters, int every, boolean wide) {
        drafts[account] = Text.of(letters, every, wide);
        return drafts[account].parts().size();
    }

    void setOptions(int account, int kind, int reference, boolean receipt) {
        kinds[account] = kind;
        references[account] = reference;
        receiptsWanted[account] = receipt;
    }

    int setRate(int account, int allowed, int window) {
        int before = most[account];
        most[account] = allowed;
        windows[account] = window;
        return before;
    }

    int submit(int account, int recipient, int priority, int validity) {
        for (int i = sent.size() - 1; i >= 0; i--) {
            Sent old = sent.get(i);
            if (references[account] >= 0 && old.account == account && old.recipient == recipient
                    && old.reference == references[account] && now < old.submitted + 30) {
                return i;
            }
        }
        long lately = sent.stream()
                .filter(m -> m.account == account && now < m.submitted + windows[account]).count();
        if (lately >= most[account] || sent.size() == 40) {
            throw new IllegalStateException();
        }
        Sent fresh = new Sent();
        fresh.number = sent.size();
        fresh.account = account;
        fresh.recipient = recipient;
        fresh.priority = priority;
        fresh.submitted = now;
        fresh.lastTick = now + validity;
        fresh.kind = kinds[account];
        fresh.reference = references[account];
        fresh.receipt = receiptsWanted[account];
        fresh.parts = drafts[account].parts();
        fresh.due = now;
        for (Sent old : List.copyOf(waitingFor(recipient))) {
            if (fresh.kind > 0 && old.kind == fresh.kind && old.account == account && old.came == 0) {
                end(old, MessageCentre.DELETED);
            }
        }
        sent.add(fresh);
        return fresh.number;
    }

    int delete(int number) {
        Sent message = waitingOne(number);
        end(message, MessageCentre.DELETED);
        return message.came;
    }

    int due(int number) {
        return waitingOne(number).due;
    }

    int setMode(int recipient, int mode) {
        int before = modes[recipient];
        modes[recipient] = mode;
        if (mode == MessageCentre.PRESENT && markedAbsent[recipient]) {
            markedAbsent[recipient] = false;
            wake(recipient);
        }
        return before;
    }

    int setRoom(int recipient, int parts) {
        int before = rooms[recipient];
        rooms[recipient] = parts;
        roomChanged(recipient);
        return before;
    }

    int read(int recipient, int parts) {
        for (int i = 0; i < parts && inside[recipient] > 0; i++) {
            inside[recipient]--;
        }
        roomChanged(recipient);
        return inside[recipient];
    }

    int marks(int recipient) {
        return (markedAbsent[recipient] ? 1 : 0) + (markedFull[recipient] ? 2 : 0);
    }

    int next(int recipient) {
        return firstOf(waitingFor(recipient)).map(m -> m.number).orElse(-1);
    }

    int pass(int ticks) {
        int cameBefore = sent.stream().mapToInt(m -> m.came).sum();
        for (int i = 0; i < ticks; i++) {
            now++;
            sent.stream().filter(m -> m.waits() && now >= m.lastTick)
                    .forEach(m -> end(m, MessageCentre.EXPIRED));
            for (int recipient = 0; recipient < 6; recipient++) {
                List<Sent> due = new ArrayList<>(waitingFor(recipient));
                due.removeIf(m -> m.due > now);
                firstOf(due).ifPresent(this::attempt);
            }
        }
        return sent.stream().mapToInt(m -> m.came).sum() - cameBefore;
    }

    int takeReceipt(int account) {
        if (receipts.get(account).isEmpty()) {
            throw new IllegalStateException();
        }
        return receipts.get(account).removeFirst();
    }

    float share() {
        List<Sent> ended = sent.stream().filter(m -> !m.waits()).toList();
        long good = ended.stream().filter(m -> m.state == MessageCentre.DELIVERED).count();
        return ended.isEmpty() ? 0.0f : (float) good / (float) ended.size();
    }

    List<Sent> waitingFor(int recipient) {
        return sent.stream().filter(m -> m.recipient == recipient && m.waits()).toList();
    }

    private Sent waitingOne(int number) {
        if (!sent.get(number).waits()) {
            throw new IllegalStateException();
        }
        return sent.get(number);
    }

    private Optional<Sent> firstOf(List<Sent> messages) {
        return messages.stream().min(Comparator.<Sent>comparingInt(m -> -m.priority)
                .thenComparingInt(Sent::dueAt).thenComparingInt(m -> m.number));
    }

    private void attempt(Sent message) {
        int recipient = message.recipient;
        message.attempts++;
        switch (modes[recipient]) {
            case MessageCentre.BARRED -> end(message, MessageCentre.REFUSED);
            case MessageCentre.BUSY -> fail(message, "BUSY", 2);
            case MessageCentre.ABSENT -> {
                fail(message, "ABSENT", 5);
                markedAbsent[recipient] = true;
            }
            default -> {
                if (inside[recipient] >= rooms[recipient]) {
                    fail(message, "FULL", 10);
                    markedFull[recipient] = true;
                } else {
                    bring(message);
                }
            }
        }
    }

    private void bring(Sent message) {
        inside[message.recipient]++;
        message.came++;
        message.due = now;
        message.failures.clear();
        if (message.came == message.parts.size()) {
            end(message, MessageCentre.DELIVERED);
        }
    }

    private void fail(Sent message, String cause, int delay) {
        int nth = message.failures.merge(cause, 1, Integer::sum);
        int times = 1;
        for (int i = 1; i < nth && times < 8; i++) {
            times *= 2;
        }
        message.due = now + delay * times;
    }

    private void end(Sent message, int state) {
        message.state = state;
        if (message.receipt) {
            receipts.get(message.account).addLast(10 * message.number + state);
        }
    }

    private void roomChanged(int recipient) {
        if (markedFull[recipient] && inside[recipient] < rooms[recipient]) {
            markedFull[recipient] = false;
            wake(recipient);
        }
    }

    private void wake(int recipient) {
        for (Sent message : waitingFor(recipient)) {
            if (message.due > now) {
                message.due = now;
            }
        }
    }
}

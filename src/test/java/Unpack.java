import java.util.ArrayList;
import java.util.List;

/** Reads the packs of plain back, as the document's terms tell them. */
final class Unpack {
    /** Where each pack ends, and how many bytes of the text its block has. */
    final List<Integer> ends = new ArrayList<>();
    final List<Integer> cuts = new ArrayList<>();

    private final List<Integer> bytes = new ArrayList<>();
    private final StringBuilder text = new StringBuilder();
    private int at;

    Unpack(PackThreads x) {
        for (int v = x.plain(0); v != PackThreads.NONE; v = x.plain(bytes.size())) {
            bytes.add(v);
        }
        while (at < bytes.size()) {
            block();
        }
    }

    String text() {
        return text.toString();
    }

    private void block() {
        int before = text.length();
        for (int head = next(); head > 0; head = next()) {
            if (head >= 128) {
                copy(head - 128 + 3, next() + 1);
            } else {
                for (int k = 0; k < head; k++) {
                    text.append((char) next());
                }
            }
        }
        ends.add(at);
        cuts.add(text.length() - before);
    }

    private void copy(int length, int distance) {
        for (int k = 0; k < length; k++) {
            int from = text.length() - distance;
            text.append(from >= 0 && from < text.length() ? text.charAt(from) : '?');
        }
    }

    private int next() {
        return at < bytes.size() ? bytes.get(at++) : PackThreads.NONE;
    }
}

/** Objects in the states that the tests begin with. */
final class Make {
    private Make() {
    }

    static PackThreads packing(int size, int window, String bytes) {
        PackThreads x = new PackThreads();
        x.set(0, size);
        x.set(1, window);
        Due.types(x, bytes);
        return x;
    }

    /** Bytes from one to another, each one more than the one before. */
    static String rising(int from, int to) {
        StringBuilder bytes = new StringBuilder();
        for (int v = from; v <= to; v++) {
            bytes.append((char) v);
        }
        return bytes.toString();
    }

    /** Not begun; each byte is a token of its own, so a block takes as many steps as it has bytes. */
    static PackThreads apart(int size, int cells, int rowLimit, int bytes) {
        PackThreads x = packing(size, 0, rising(0, bytes - 1));
        x.set(2, cells);
        x.set(3, rowLimit);
        return x;
    }
}

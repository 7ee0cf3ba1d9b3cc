/** Brings texts to a bench, 20 bytes a call. */
final class Texts {
    private Texts() {
    }

    /** The int that stands for the bytes of a text from a place on; spaces behind its end. */
    static int word(String text, int at) {
        int word = 0;
        for (int i = at; i < at + 4; i++) {
            word = word << 8 | (i < text.length() ? text.charAt(i) : ' ');
        }
        return word;
    }

    static void append(PartitionBench bench, String text) {
        int before = 0;
        for (int at = 0; at < text.length(); at += 20) {
            before = bench.appendInput(word(text, at), word(text, at + 4), word(text, at + 8), word(text, at + 12),
                word(text, at + 16));
        }
        if (text.length() % 20 != 0) {
            bench.truncateInput(before - 20 + text.length() % 20);
        }
    }

    static int load(PartitionBench bench, String text) {
        append(bench, text);
        return bench.loadDisk();
    }

    static PartitionBench bench(String text) {
        PartitionBench bench = new PartitionBench();
        if (load(bench, text) < 0) {
            throw new IllegalStateException("the test's text is wrong: " + text);
        }
        return bench;
    }

    /** What printDisk writes. */
    static String print(PartitionBench bench) {
        StringBuilder text = new StringBuilder();
        int length = bench.printDisk();
        for (int i = 0; i < length; i++) {
            text.append((char) bench.outputByte(i));
        }
        return text.toString();
    }

    /** All that can be asked about the state of a bench, but for the output and the reported error. */
    static String state(PartitionBench bench) {
        StringBuilder text = new StringBuilder();
        for (int what = 0; what < 12; what++) {
            text.append(bench.count(what)).append(' ');
        }
        for (int part = 0; part < 8; part++) {
            for (int what = 0; what < 7; what++) {
                int n = part;
                int w = what;
                text.append(Check.outcome(() -> bench.part(n, w))).append(' ');
            }
        }
        for (int what = 0; what < 9; what++) {
            text.append(bench.move(what)).append(' ');
        }
        for (int s = 0; s < bench.count(0); s++) {
            text.append(bench.sector(s)).append(':').append(bench.owner(s)).append(' ');
        }
        return text.toString();
    }
}

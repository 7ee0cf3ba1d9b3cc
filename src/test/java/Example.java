/** A bench from its first text to the bytes that it prints. */
public final class Example {
    public static void main(String[] args) {
        // A new object is a disk of 64 sectors without partitions.
        PartitionBench bench = new PartitionBench();
        say("sectors, partitions", bench.count(0), bench.count(5));

        // A text is put into the input buffer and loaded. An error leaves the disk as it was.
        type(bench, "disk 100; head 2; part 10 11 1 4; lock 1;");
        say("partitions", bench.loadDisk());
        say("error, offset", bench.errorCode(), bench.errorOffset());
        type(bench, "disk 100; head 2; part 10 11 1 4; lock 0;");
        say("partitions", bench.loadDisk());

        // What cannot be done has a reason; who does it all the same gets an exception.
        say("reasons", bench.reason(20, 9), bench.reason(40, 9));
        try {
            bench.add(20, 9, 3, 1);
        } catch (IllegalArgumentException e) {
            say("gaps", bench.count(7));
        }

        // Partitions are added: start, size, kind and minimum; or the bench finds the start.
        int part = bench.add(40, 9, 3, 1);
        int other = bench.addBy(20, 5, 6, 2);
        say("numbers, starts", part, other, bench.part(part, 0), bench.part(other, 0));

        // Three sectors to the left: chunks of four go through the scratch area, the last one needs no detour.
        say("steps", bench.begin(part, 37));
        say("scratch area, chunks", bench.move(3), bench.move(5));
        say("torn: blocks", bench.tear());
        say("places, whole", bench.place(part, 0), bench.place(part, 8), bench.isWhole(part) ? 1 : 0);

        // A torn step is done as a whole when the move is resumed.
        say("steps done", bench.run(2));
        say("places, whole", bench.place(part, 0), bench.place(part, 8), bench.isWhole(part) ? 1 : 0);

        // While no chunk is in the scratch area, the move can be turned back; it goes on until it ends.
        say("steps left", bench.turnBack());
        say("steps done", bench.run(999));
        say("start, whole", bench.part(part, 0), bench.isWhole(part) ? 1 : 0);

        // Each of the latest 10 changes can be undone: the run here, and then the turning back.
        say("can be undone", bench.undo());
        say("can be undone", bench.undo());
        print(bench);
        say("steps done", bench.run(999));
        print(bench);
    }

    /** Puts a text into the empty input buffer: 20 bytes a call, four to an int, and takes back what is behind it. */
    private static void type(PartitionBench bench, String text) {
        for (int at = 0; at < text.length(); at += 20) {
            bench.appendInput(four(text, at), four(text, at + 4), four(text, at + 8), four(text, at + 12),
                four(text, at + 16));
        }
        bench.truncateInput(text.length());
    }

    /** Four bytes of a text from a place on, the most significant one first. */
    private static int four(String text, int at) {
        int bytes = 0;
        for (int i = at; i < at + 4; i++) {
            bytes = bytes << 8 | (i < text.length() ? text.charAt(i) : ' ');
        }
        return bytes;
    }

    /** Writes the disk to the output and reads it, byte by byte. */
    private static void print(PartitionBench bench) {
        int length = bench.printDisk();
        for (int i = 0; i < length; i++) {
            System.out.print((char) bench.outputByte(i));
        }
        System.out.println();
    }

    private static void say(String what, int... numbers) {
        StringBuilder line = new StringBuilder(what).append(':');
        for (int number : numbers) {
            line.append(' ').append(number);
        }
        System.out.println(line);
    }
}

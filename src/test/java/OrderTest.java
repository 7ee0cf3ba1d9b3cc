/**
 * What is refused, and in which order: each two reasons, exceptions or errors that can apply to one call, and the one
 * that is due. A call that is refused changes nothing.
 */
public final class OrderTest {
    private static final Class<IllegalArgumentException> ARGUMENT = IllegalArgumentException.class;
    private static final Class<IllegalStateException> STATE = IllegalStateException.class;
    private static final Class<IndexOutOfBoundsException> INDEX = IndexOutOfBoundsException.class;
    private static final Class<java.util.NoSuchElementException> NONE = java.util.NoSuchElementException.class;
    private static final String EIGHT = "disk 64;part 0 4 0 1;part 4 4 0 1;part 8 4 0 1;part 12 4 0 1;"
        + "part 16 4 0 1;part 20 4 0 1;part 24 4 0 1;part 28 4 0 2;";
    private static final Check check = new Check();

    public static void main(String[] args) {
        reasonsOfAreas();
        reasonsOfMoves();
        reasonsOfSizes();
        argumentsAndStates();
        whatIsAskedOfNoPartition();
        whatIsAskedWhileAMoveIsOn();
        errorsOfOneToken();
        errorsFromLeftToRight();
        check.end();
    }

    /** The call throws, and all that can be asked is as it was. */
    private static void refused(PartitionBench b, String name, Class<? extends RuntimeException> kind, Check.Call call) {
        String before = Texts.state(b);
        check.throwsDue(name, kind, call);
        check.due(name + " changes nothing", Texts.state(b), before);
    }

    private static void reasonsOfAreas() {
        check.at("why an area cannot take a partition");
        PartitionBench b = Texts.bench("disk 64;head 3;tail 3;align 4;part 20 4 0 1;part 56 5 0 1;part 40 4 0 1;");
        check.due("TO is 28 to 31, there is no scratch area", b.begin(0, 28) + " " + b.move(3), "1 -1");
        check.due("1 ahead of 2: no size", b.reason(21, 0), 1);
        check.due("1 ahead of 2: reserved", b.reason(2, 1), 1);
        check.due("1 ahead of 3: no size", b.reason(20, 0), 1);
        check.due("1 ahead of 3: behind the usable ones", b.reason(56, 6), 1);
        check.due("1 ahead of 4: no size", b.reason(28, -1), 1);
        check.due("1 ahead of 4: behind the usable ones", b.reason(28, 40), 1);
        check.due("2 ahead of 3", b.reason(21, 1), 2);
        check.due("2 ahead of 4", b.reason(29, 1), 2);
        check.due("3 ahead of 4", b.reason(24, 17), 3);
        check.due("4 alone, by the last sector", b.reason(24, 5), 4);
        check.due("none", b.reason(24, 4), 0);
    }

    private static void reasonsOfMoves() {
        check.at("why a partition cannot be moved");
        PartitionBench b = Texts.bench("disk 64;head 3;tail 3;part 20 10 0 1;lock 0;part 40 10 0 1;part 56 5 0 1;");
        check.due("1 ahead of 3", b.moveReason(0, 20), 1);
        check.due("1 ahead of 4", b.moveReason(0, 1), 1);
        check.due("1 ahead of 6", b.moveReason(0, 35), 1);
        b.set(3, 4);
        check.due("1 ahead of 5", b.moveReason(0, 5), 1);
        check.due("4 ahead of 5: ahead of the usable ones", b.moveReason(1, 1), 4);
        check.due("4 ahead of 5: behind them", b.moveReason(1, 53), 4);
        check.due("4 ahead of 6", b.moveReason(1, 52), 4);
        check.due("5 ahead of 6", b.moveReason(1, 21), 5);
        check.due("6 alone", b.moveReason(1, 24), 6);
        b.set(3, 7);
        check.due("3 ahead of 5", b.moveReason(1, 40), 3);
        b.set(3, 1);
        b.begin(1, 6);
        check.due("1 ahead of 2", b.moveReason(0, 32), 1);
        check.due("2 ahead of 3", b.moveReason(2, 56), 2);
        check.due("2 ahead of 4", b.moveReason(2, 57), 2);
        check.due("2 ahead of 6", b.moveReason(2, 20), 2);
        b.set(3, 8);
        check.due("2 ahead of 5", b.moveReason(2, 33), 2);
        noScratchArea();
    }

    /** All sectors but 58 to 63 are taken; chunks of 16 need more than these leave. */
    private static void noScratchArea() {
        String text = "disk 64;chunk 16;part 0 20 0 1;part 20 38 0 1;";
        PartitionBench b = Texts.bench(text);
        check.due("7 alone", b.moveReason(1, 21), 7);
        check.due("6 ahead of 7", b.moveReason(1, 19), 6);
        check.due("4 ahead of 7", b.moveReason(1, 27), 4);
        b.set(3, 2);
        check.due("5 ahead of 7", b.moveReason(1, 21), 5);
        check.due("3 ahead of what else there is", b.moveReason(1, 20), 3);
        b.lock(1, true);
        check.due("1 ahead of 7", b.moveReason(1, 22), 1);
    }

    private static void reasonsOfSizes() {
        check.at("why a partition cannot have a size");
        PartitionBench b = Texts.bench("disk 64;tail 4;part 0 8 0 4;part 20 8 0 4;part 40 4 0 2;part 50 4 0 1;lock 0;");
        check.due("1 ahead of 3", b.resizeReason(0, 3), 1);
        check.due("1 ahead of 4 and 5", b.resizeReason(0, 61), 1);
        check.due("1 ahead of 5", b.resizeReason(0, 21), 1);
        check.due("4 ahead of 5", b.resizeReason(1, 41), 4);
        check.due("5 alone", b.resizeReason(1, 40), 5);
        check.due("3 alone", b.resizeReason(1, 3), 3);
        check.due("3 of what is no size", b.resizeReason(1, Integer.MIN_VALUE), 3);
        check.due("4 of the greatest int", b.resizeReason(1, Integer.MAX_VALUE), 4);
        check.due("TO is 30 to 37, the chunks go directly", b.begin(1, 30) + " " + b.move(3), "2 -1");
        check.due("2 ahead of 3", b.resizeReason(1, 3), 2);
        check.due("2 ahead of 4", b.resizeReason(1, 41), 2);
        check.due("2 ahead of 5", b.resizeReason(1, 21), 2);
        check.due("2 ahead of 6", b.resizeReason(1, 11), 2);
        b.lock(1, true);
        check.due("1 ahead of 2", b.resizeReason(1, 8), 1);
        b.lock(0, false);
        check.due("5 ahead of 6", b.resizeReason(0, 31), 5);
        b.tear();
        b.turnBack();
        b.lock(1, false);
        b.begin(1, 10);
        check.due("6 alone", b.resizeReason(0, 11), 6);
        check.due("5 ahead of 6 by the partition behind", b.resizeReason(0, 21), 5);
        check.due("4 ahead of 6", b.resizeReason(0, 61), 4);
        b.lock(0, true);
        check.due("1 ahead of 6", b.resizeReason(0, 11), 1);
    }

    private static void argumentsAndStates() {
        check.at("the exception that is listed first");
        PartitionBench b = Texts.bench(EIGHT);
        refused(b, "add: kind, and 8 partitions", ARGUMENT, () -> b.add(40, 4, 10, 1));
        refused(b, "add: minimum, and 8 partitions", ARGUMENT, () -> b.add(40, 4, 0, 5));
        refused(b, "add: the area, and 8 partitions", ARGUMENT, () -> b.add(30, 4, 0, 1));
        refused(b, "add: 8 partitions", STATE, () -> b.add(40, 4, 0, 1));
        refused(b, "addBy: kind, and 8 partitions", ARGUMENT, () -> b.addBy(4, -1, 1, 0));
        refused(b, "addBy: minimum, and 8 partitions", ARGUMENT, () -> b.addBy(4, 0, 0, 0));
        refused(b, "addBy: rule, and 8 partitions", ARGUMENT, () -> b.addBy(4, 0, 1, 3));
        refused(b, "addBy: rule, and no start", ARGUMENT, () -> b.addBy(64, 0, 1, -1));
        refused(b, "addBy: no size, so no minimum", ARGUMENT, () -> b.addBy(0, 0, 0, 0));
        refused(b, "addBy: 8 partitions and no start", STATE, () -> b.addBy(64, 0, 1, 0));
        refused(b, "split: size, and 8 partitions", ARGUMENT, () -> b.split(7, 1));
        refused(b, "split: 8 partitions", STATE, () -> b.split(7, 2));
        refused(b, "part: what, and no partition", ARGUMENT, () -> b.part(8, 7));
        refused(b, "gap: what, and no gap", INDEX, () -> b.gap(1, 4));
        refused(b, "gap: what", ARGUMENT, () -> b.gap(0, 4));
        refused(b, "run: steps, and no move", ARGUMENT, () -> b.run(0));
        refused(b, "run: no move", STATE, () -> b.run(1));
        refused(b, "set: what, and value", ARGUMENT, () -> b.set(5, 0));
        refused(b, "move: what, and no move", ARGUMENT, () -> b.move(9));
        refused(b, "blocksAt: where, and no move", ARGUMENT, () -> b.blocksAt(3));
        refused(b, "nextStep: what, and no move", ARGUMENT, () -> b.nextStep(4));
        refused(b, "fit: rule, and no size", ARGUMENT, () -> b.fit(0, 3));
        b.lock(7, true);
        refused(b, "split: size, and locked", ARGUMENT, () -> b.split(7, 4));
        refused(b, "split: locked", STATE, () -> b.split(7, 3));
        refused(b, "join: locked, and no neighbour", STATE, () -> b.join(7));
    }

    private static void whatIsAskedOfNoPartition() {
        check.at("no such partition");
        PartitionBench b = Texts.bench("disk 64;part 0 4 0 1;part 10 4 0 1;");
        b.begin(0, 20);
        for (int n : new int[] {-1, 2, 7, 8, Integer.MIN_VALUE, Integer.MAX_VALUE}) {
            refused(b, "part " + n, NONE, () -> b.part(n, 0));
            refused(b, "place " + n, NONE, () -> b.place(n, 0));
            refused(b, "isWhole " + n, NONE, () -> b.isWhole(n));
            refused(b, "remove " + n, NONE, () -> b.remove(n));
            refused(b, "lock " + n, NONE, () -> b.lock(n, true));
            refused(b, "resizeReason " + n, NONE, () -> b.resizeReason(n, 0));
            refused(b, "resize " + n, NONE, () -> b.resize(n, 0));
            refused(b, "setMinimum " + n + ", out of range", NONE, () -> b.setMinimum(n, 0));
            refused(b, "growsTo " + n, NONE, () -> b.growsTo(n));
            refused(b, "moveReason " + n, NONE, () -> b.moveReason(n, -1));
            refused(b, "stepsFor " + n, NONE, () -> b.stepsFor(n, -1));
            refused(b, "begin " + n + ", a move is on", NONE, () -> b.begin(n, 30));
            refused(b, "leftmost " + n, NONE, () -> b.leftmost(n));
            refused(b, "rightmost " + n, NONE, () -> b.rightmost(n));
            refused(b, "copies " + n, NONE, () -> b.copies(n));
            refused(b, "split " + n + ", out of range", NONE, () -> b.split(n, 0));
            refused(b, "join " + n, NONE, () -> b.join(n));
            refused(b, "roundUp " + n, NONE, () -> b.roundUp(n));
            refused(b, "bestChunk " + n, NONE, () -> b.bestChunk(n, -1));
            refused(b, "behind " + n, NONE, () -> b.behind(n));
        }
    }

    private static void whatIsAskedWhileAMoveIsOn() {
        check.at("while a move is on");
        PartitionBench b = Texts.bench("disk 64;part 0 4 0 1;part 4 4 0 1;part 10 6 0 1;");
        b.begin(0, 20);
        refused(b, "cheapestMove: size, and a move", ARGUMENT, () -> b.cheapestMove(601));
        refused(b, "cheapestMove: a move", STATE, () -> b.cheapestMove(1));
        refused(b, "compact", STATE, b::compact);
        refused(b, "begin", STATE, () -> b.begin(2, 30));
        refused(b, "remove", STATE, () -> b.remove(0));
        refused(b, "resize", STATE, () -> b.resize(0, 3));
        refused(b, "roundUp", STATE, () -> b.roundUp(0));
        refused(b, "split: size, and moved", ARGUMENT, () -> b.split(0, 4));
        refused(b, "split: moved", STATE, () -> b.split(0, 3));
        refused(b, "join", STATE, () -> b.join(0));
        refused(b, "run: steps", ARGUMENT, () -> b.run(1000));
        check.due("steps that compact would do", b.compactSteps(), -1);
        PartitionBench parked = Texts.bench("disk 64;part 0 4 0 1;");
        parked.begin(0, 2);
        parked.run(1);
        refused(parked, "turnBack: a chunk is in the scratch area", STATE, parked::turnBack);
        parked.run(1);
        refused(parked, "turnBack: no move", STATE, parked::turnBack);
        refused(parked, "tear: no move", STATE, parked::tear);
        refused(parked, "restoreState: none is saved", STATE, parked::restoreState);
    }

    private static void error(String text, int code, int offset) {
        PartitionBench b = Texts.bench(EIGHT);
        String before = Texts.state(b);
        check.due(text, Texts.load(b, text) + " " + b.errorCode() + " " + b.errorOffset(), "-1 " + code + " " + offset);
        check.due(text + " changes nothing", Texts.state(b), before);
        check.due(text + " is gone", b.truncateInput(1), false);
    }

    private static void errorsOfOneToken() {
        check.at("the smallest code of one token");
        String one = "disk 64;part 8 8 0 1;";
        error("disk 64;head 1;part 8 8 0 1;head 2;", PartitionBench.SYNTAX, 28);
        error("disk 64;tail 1;part 8 8 0 1;tail 2;", PartitionBench.SYNTAX, 28);
        error("disk 64;align 2;part 8 8 0 1;align 2;", PartitionBench.SYNTAX, 29);
        error(one + "part 4 61 0 1;", PartitionBench.OUT_OF_RANGE, 28);
        error(one + "part 4 1000 0 1;", PartitionBench.SYNTAX, 28);
        error(one + "part 4 5 0 1;", PartitionBench.TAKEN, 28);
        error(one + "part 12 0 0 1;", PartitionBench.OUT_OF_RANGE, 29);
        error(one + "lock 0;lock 0000;", PartitionBench.SYNTAX, 33);
        error("disk 1000;", PartitionBench.SYNTAX, 5);
        error(EIGHT + "lock 0;lock 0;", PartitionBench.TWICE, EIGHT.length() + 12);
        error(EIGHT + "lock 8;", PartitionBench.OUT_OF_RANGE, EIGHT.length() + 5);
    }

    /** What is wrong further on in the text is not met. */
    private static void errorsFromLeftToRight() {
        check.at("the first error");
        error("disk 64;chunk 0;disk 9;", PartitionBench.OUT_OF_RANGE, 14);
        error("disk 64;chunk 3;chunk 99", PartitionBench.TWICE, 16);
        error("disk 64;head 3;head", PartitionBench.TWICE, 15);
        error("disk 64;part 8 8 0 1;part 60 5 10 6;", PartitionBench.OUT_OF_RANGE, 29);
        error("disk 64;part 8 8 0 1;part 9 1 10 2;", PartitionBench.TAKEN, 28);
        error("disk 64;part 64 1 0 1;", PartitionBench.OUT_OF_RANGE, 13);
        error("disk 64;align 2;part 9 99 0 1;", PartitionBench.OUT_OF_RANGE, 21);
        error("disk 64;align 2;part 9 part", PartitionBench.OUT_OF_RANGE, 21);
        error(EIGHT + "part", PartitionBench.TOO_MANY, EIGHT.length());
        error(EIGHT + "part 0 0 0 0 0", PartitionBench.TOO_MANY, EIGHT.length());
        error(EIGHT + "lock 8", PartitionBench.OUT_OF_RANGE, EIGHT.length() + 5);
        error(EIGHT + "lock 7", PartitionBench.SYNTAX, EIGHT.length() + 6);
        error("disk 601 601", PartitionBench.OUT_OF_RANGE, 5);
        error("disk 600 601", PartitionBench.SYNTAX, 9);
    }
}

import java.util.NoSuchElementException;

/** Promises 28 to 38, 44, 51, 52, 56 and 57: moves, and what is asked about them. */
public final class MovesTest {
    private static final Check check = new Check();
    private static final Class<IllegalArgumentException> ARGUMENT = IllegalArgumentException.class;
    private static final Class<IllegalStateException> STATE = IllegalStateException.class;
    private static final Class<NoSuchElementException> NONE = NoSuchElementException.class;
    private static final int BIG = Integer.MAX_VALUE;
    private static final int LOW = Integer.MIN_VALUE;
    /** Ten blocks in chunks of 4, 4 and 2. */
    private static final String ONE = "disk 64;part 20 10 1 4;";
    /** Usable are 4 to 57. */
    private static final String TWO = "disk 64;head 4;tail 6;align 2;part 10 10 0 1;part 30 6 0 1;lock 1;";
    /** Free are 60 to 63 alone. */
    private static final String TIGHT = "disk 64;part 0 30 0 1;part 30 30 0 1;";

    public static void main(String[] args) {
        promise28MoveReason();
        promise29StepsFor();
        promise30Begin();
        promise30ScratchArea();
        promise31Run();
        promise31RunToTheRight();
        promise32Tear();
        promise33TurnBack();
        promise34Move();
        promise35Leftmost();
        promise36Compact();
        promise37CompactSteps();
        promise38CheapestMove();
        promise44BlocksAt();
        promise51BestChunk();
        promise52Rightmost();
        promise56NextStep();
        promise57StepSector();
        check.end();
    }

    private static void promise28MoveReason() {
        check.at("promise 28");
        PartitionBench b = Texts.bench(TWO);
        int[][] due = {{0, 10, 3}, {0, 4, 0}, {0, 3, 4}, {0, 2, 4}, {0, 48, 0}, {0, 49, 4}, {0, 47, 5}, {0, 20, 0},
            {0, 22, 6}, {0, 21, 5}, {0, 34, 6}, {0, 36, 0}, {0, 12, 0}, {0, -1, 4}, {0, -2, 4}, {0, BIG, 4}, {0, LOW, 4},
            {1, 4, 1}, {1, 30, 1}, {1, BIG, 1}};
        for (int[] d : due) {
            check.due("moveReason(" + d[0] + ", " + d[1] + ")", b.moveReason(d[0], d[1]), d[2]);
        }
        for (int part : new int[] {2, 8, -1}) {
            check.throwsDue("part " + part, NONE, () -> b.moveReason(part, 4));
        }
        b.begin(0, 48);
        check.due("a move is on", b.moveReason(0, 4), 2);
        check.due("a move is on, out of range", b.moveReason(0, BIG), 2);
        check.due("locked and a move is on", b.moveReason(1, 4), 1);
        b.turnBack();
        check.due("no move is on any more", b.moveReason(0, 4), 0);
        b.lock(1, false);
        check.due("freed", b.moveReason(1, 36), 0);
        b.set(3, 4);
        check.due("it stands there, not aligned", b.moveReason(0, 10), 3);
        b.begin(0, 4);
        check.due("a move is on, and it stands there", b.moveReason(1, 30), 2);
        check.due("a move is on, and it goes there", b.moveReason(0, 4), 2);
        b.lock(0, true);
        check.due("locked and moved", b.moveReason(0, 10), 1);
        PartitionBench tight = Texts.bench(TIGHT);
        check.due("taken, and no scratch area", tight.moveReason(1, 29), 6);
        check.due("not usable, and no scratch area", tight.moveReason(1, 35), 4);
        check.due("the last sectors", tight.moveReason(1, 34), 0);
        check.due("4 far, no scratch area needed", tight.moveReason(1, 34), 0);
        check.due("3 far, none is left behind TO", tight.moveReason(1, 33), 7);
        check.due("1 far, 3 are left", tight.moveReason(1, 31), 7);
        tight.set(4, 3);
        check.due("1 far, 3 are enough", tight.moveReason(1, 31), 0);
        check.due("2 far, 2 are left", tight.moveReason(1, 32), 7);
        check.due("3 far, chunks of 3", tight.moveReason(1, 33), 0);
        // A scratch area would only be where sectors are reserved.
        PartitionBench head = Texts.bench("disk 64;head 4;part 7 57 0 1;");
        check.due("no scratch area in the head", head.moveReason(0, 4), 7);
        PartitionBench near = Texts.bench("disk 64;head 4;part 7 53 0 1;part 61 3 0 1;");
        check.due("none that begins in the head", near.moveReason(0, 8), 7);
        near.set(4, 3);
        check.due("one that begins behind the head", near.moveReason(0, 8), 0);
        PartitionBench end = Texts.bench("disk 64;tail 4;part 0 57 0 1;");
        check.due("none in the tail", end.moveReason(0, 3), 7);
        PartitionBench tail = Texts.bench("disk 64;tail 4;part 0 3 0 1;part 4 53 0 1;");
        check.due("none that ends in the tail", tail.moveReason(1, 3), 7);
        tail.set(4, 3);
        check.due("one that ends ahead of the tail", tail.moveReason(1, 3), 0);
        // A partition shorter than CHUNK needs a scratch area of its size only.
        PartitionBench small = Texts.bench("disk 64;chunk 16;part 0 56 0 1;part 56 3 0 1;");
        check.due("a scratch area of 3", small.moveReason(1, 57), 0);
        small.begin(1, 57);
        check.due("it is", small.move(3), 61);
    }

    private static void promise29StepsFor() {
        check.at("promise 29");
        PartitionBench b = Texts.bench(ONE);
        int[][] due = {{21, 6}, {22, 5}, {23, 5}, {24, 3}, {54, 3}, {19, 6}, {18, 5}, {16, 3}, {0, 3}, {20, -1}, {55, -1},
            {-1, -1}, {BIG, -1}, {LOW, -1}};
        for (int[] d : due) {
            check.due("stepsFor(0, " + d[0] + ")", b.stepsFor(0, d[0]), d[1]);
        }
        b.set(4, 1);
        check.due("CHUNK 1", b.stepsFor(0, 21), 10);
        b.set(4, 10);
        check.due("CHUNK 10", b.stepsFor(0, 21), 2);
        check.due("CHUNK 10, far", b.stepsFor(0, 30), 1);
        b.set(4, 5);
        check.due("CHUNK 5", b.stepsFor(0, 24), 4);
        b.lock(0, true);
        check.due("locked", b.stepsFor(0, 24), -1);
        b.lock(0, false);
        b.begin(0, 0);
        check.due("a move is on", b.stepsFor(0, 24), -1);
        for (int part : new int[] {1, 8, -1}) {
            check.throwsDue("part " + part, NONE, () -> b.stepsFor(part, 4));
        }
        PartitionBench tight = Texts.bench(TIGHT);
        check.due("no scratch area", tight.stepsFor(1, 31), -1);
        check.due("taken", tight.stepsFor(1, 29), -1);
        check.due("the last chunk of 2 goes directly, 7 go by the scratch area",
            Texts.bench("disk 64;part 0 30 0 1;").stepsFor(0, 2), 15);
        tight.set(3, 32);
        check.due("not aligned", tight.stepsFor(1, 34), -1);
        PartitionBench most = Texts.bench("disk 600;chunk 1;part 0 599 0 1;");
        check.due("as many blocks as can be", most.stepsFor(0, 1), 599);
        check.due("they are done", most.begin(0, 1) + most.run(999), 2 * 599);
        PartitionBench one = Texts.bench("disk 64;chunk 16;part 0 1 0 1;");
        check.due("one block needs no scratch area", one.stepsFor(0, 1), 1);
    }

    private static void promise30Begin() {
        check.at("promise 30");
        PartitionBench b = Texts.bench(TWO);
        check.throwsDue("not usable", STATE, () -> b.begin(0, 49));
        check.throwsDue("where it stands", STATE, () -> b.begin(0, 10));
        check.throwsDue("taken", STATE, () -> b.begin(0, 22));
        check.throwsDue("not aligned", STATE, () -> b.begin(0, 41));
        check.throwsDue("locked", STATE, () -> b.begin(1, 40));
        check.throwsDue("far out", STATE, () -> b.begin(0, BIG));
        for (int part : new int[] {2, 8, -1}) {
            check.throwsDue("part " + part, NONE, () -> b.begin(part, 4));
        }
        PartitionBench tight = Texts.bench(TIGHT);
        check.throwsDue("no scratch area", STATE, () -> tight.begin(1, 31));
        tight.set(4, 3);
        check.due("one by another CHUNK", tight.begin(1, 31), 20);
        check.due("begin(0, 8)", b.begin(0, 8), 5);
        check.due("no step is done", b.count(8) + b.move(6) + b.move(8), 0);
        check.due("it is at FROM", b.part(0, 0), 10);
        check.due("nothing is copied", b.sector(8), 0);
        b.lock(1, false);
        check.throwsDue("a move is on", STATE, () -> b.begin(1, 40));
        check.throwsDue("the same again", STATE, () -> b.begin(0, 8));
    }

    private static void scratch(String text, int part, int to, int start) {
        PartitionBench b = Texts.bench(text);
        b.begin(part, to);
        check.due(text + " " + to, b.move(3), start);
    }

    private static void promise30ScratchArea() {
        check.at("promise 30, the scratch area");
        scratch(ONE, 0, 22, 60);
        scratch(ONE, 0, 24, -1);
        scratch(ONE, 0, 16, -1);
        scratch(ONE, 0, 17, 60);
        // Behind a partition at the end, and ahead of the tail.
        scratch("disk 64;tail 2;part 10 8 0 1;part 58 4 0 1;", 0, 11, 54);
        scratch("disk 64;tail 2;part 10 8 0 1;part 57 4 0 1;", 0, 11, 53);
        // It need not be aligned, and can stand directly behind a partition.
        scratch("disk 64;align 2;part 10 8 0 1;part 30 29 0 1;chunk 5;", 0, 12, 59);
        // TO stands in the way: 54 to 61; so does the partition itself: 50 to 57.
        scratch("disk 64;chunk 8;part 50 8 0 1;", 0, 54, 42);
        scratch("disk 64;chunk 8;part 50 8 0 1;", 0, 46, 38);
        // The first usable sectors are the only ones.
        scratch("disk 64;head 3;chunk 4;part 7 4 0 1;part 13 51 0 1;", 0, 8, 3);
        // As long as the longest chunk, not as CHUNK.
        scratch("disk 64;chunk 16;part 10 6 0 1;", 0, 8, 58);
        // One sector of it would be in another partition, or in TO.
        scratch("disk 64;part 10 8 0 1;part 63 1 0 1;", 0, 11, 59);
        scratch("disk 64;part 10 8 0 1;part 62 2 0 1;part 61 1 0 1;", 0, 11, 57);
        scratch("disk 64;part 10 8 0 1;part 60 1 0 1;", 0, 11, 56);
        scratch("disk 64;part 56 8 0 1;", 0, 55, 51);
        scratch("disk 64;part 55 8 0 1;", 0, 56, 51);
        // The scratch area fits just between two others.
        scratch("disk 64;part 10 8 0 1;part 61 3 0 1;part 50 7 0 1;", 0, 11, 57);
        scratch("disk 64;part 10 8 0 1;part 61 3 0 1;part 50 8 0 1;", 0, 11, 46);
        PartitionBench b = Texts.bench(ONE);
        b.begin(0, 22);
        b.add(50, 10, 0, 1);
        b.run(1);
        check.due("it stays the same", b.move(3), 60);
        PartitionBench free = Texts.bench("disk 64;part 10 8 0 1;part 60 4 0 1;");
        free.begin(0, 11);
        check.due("ahead of the last one", free.move(3), 56);
        free.remove(1);
        free.set(4, 2);
        free.run(2);
        check.due("also if a greater one is free then", free.move(3), 56);
        free.turnBack();
        check.due("also if it is turned back", free.move(3), 56);
        free.run(1);
        check.due("what it is used for", free.sector(56) + " " + free.sector(59) + " " + free.sector(60), "1004 1007 2000");
        check.due("isWhole(0)", free.isWhole(0), true);
    }

    private static void promise31Run() {
        check.at("promise 31");
        PartitionBench b = Texts.bench(ONE);
        check.throwsDue("no move is on", STATE, () -> b.run(1));
        check.throwsDue("run(0) without a move", ARGUMENT, () -> b.run(0));
        b.begin(0, 18);
        check.throwsDue("run(0)", ARGUMENT, () -> b.run(0));
        check.throwsDue("run(-1)", ARGUMENT, () -> b.run(-1));
        check.throwsDue("run(1000)", ARGUMENT, () -> b.run(1000));
        check.throwsDue("run(greatest)", ARGUMENT, () -> b.run(BIG));
        check.throwsDue("run(least)", ARGUMENT, () -> b.run(LOW));
        // To the left, in ascending order: 0 to 3 by the scratch area, 4 to 7 too, 8 to 9 directly.
        check.due("run(1)", b.run(1), 1);
        check.due("copied to the scratch area", b.sector(60) + b.sector(63), 1000 + 1003);
        check.due("TO is untouched", b.sector(18), 0);
        check.due("run(2)", b.run(2), 2);
        check.due("the first chunk is at its new place", b.sector(18) + b.sector(21), 1000 + 1003);
        check.due("the second one is in the scratch area", b.sector(60) + b.sector(63), 1004 + 1007);
        check.due("and in its old place", b.sector(24) + b.sector(27), 1004 + 1007);
        check.due("FROM until it ends", b.part(0, 0), 20);
        check.due("run(999)", b.run(999), 2);
        check.due("TO then", b.part(0, 0), 18);
        check.due("no move is on", b.move(0), -1);
        check.due("steps done", b.count(8), 5);
        check.due("moves ended", b.count(10), 1);
        check.due("its moves ended", b.part(0, 6), 1);
        for (int block = 0; block < 10; block++) {
            check.due("block " + block, b.sector(18 + block), 1000 + block);
        }
        check.due("what was copied stays", b.sector(28) + b.sector(29), 1008 + 1009);
        check.due("exactly the steps that are left", b.begin(0, 30) + b.run(3), 6);
        check.due("ended", b.move(0), -1);
    }

    private static void promise31RunToTheRight() {
        check.at("promise 31, to the right");
        PartitionBench b = Texts.bench(ONE);
        check.due("begin(0, 22)", b.begin(0, 22), 5);
        // In descending order: 8 to 9 directly, then 4 to 7 and 0 to 3 by the scratch area.
        b.run(1);
        check.due("the last chunk first", b.sector(30) + b.sector(31), 1008 + 1009);
        check.due("its old place", b.sector(28), 1008);
        b.run(1);
        check.due("the second one in the scratch area", b.sector(60) + b.sector(63), 1004 + 1007);
        check.due("not yet at its new place", b.sector(26), 1006);
        b.run(1);
        check.due("at its new place", b.sector(26) + b.sector(29), 1004 + 1007);
        check.due("run(9)", b.run(9), 2);
        for (int block = 0; block < 10; block++) {
            check.due("block " + block, b.sector(22 + block), 1000 + block);
        }
        check.due("what was copied stays", b.sector(20) + b.sector(21), 1000 + 1001);
        check.due("another one is not touched", b.sector(32), 0);
    }

    private static void promise32Tear() {
        check.at("promise 32");
        PartitionBench b = Texts.bench("disk 64;chunk 5;part 20 8 1 4;");
        check.throwsDue("no move is on", STATE, () -> b.tear());
        b.begin(0, 17);
        // Chunks of 5 and 3; the first one goes by the scratch area 59 to 63.
        check.due("half of 5", b.tear(), 2);
        check.due("the first two", b.sector(59) + b.sector(60), 1000 + 1001);
        check.due("not the third", b.sector(61), 0);
        check.due("it is not done", b.move(7) * 10 + b.move(8), 30);
        check.due("torn", b.count(9) * 10 + b.count(8), 10);
        check.due("again", b.tear(), 2);
        check.due("torn twice", b.count(9), 2);
        check.due("done as a whole", b.run(1), 1);
        check.due("all of it", b.sector(59) + b.sector(63), 1000 + 1004);
        check.due("half of the second step", b.tear(), 2);
        check.due("at the new place", b.sector(17) + b.sector(18), 1000 + 1001);
        check.due("not more", b.sector(19), 0);
        check.due("still in the scratch area", b.place(0, 0), 59);
        b.run(1);
        check.due("half of 3", b.tear(), 1);
        check.due("one block", b.sector(22), 1005);
        check.due("only one", b.sector(23), 1003);
        b.run(1);
        check.due("ended", b.part(0, 0), 17);
        check.due("counts", b.count(8) * 10 + b.count(9), 34);
        check.due("isWhole(0)", b.isWhole(0), true);
        PartitionBench ones = Texts.bench("disk 64;chunk 1;part 20 8 1 4;");
        ones.begin(0, 19);
        check.due("half of 1", ones.tear(), 0);
        check.due("it counts", ones.count(9), 1);
    }

    private static void promise33TurnBack() {
        check.at("promise 33");
        PartitionBench b = Texts.bench(ONE);
        check.throwsDue("no move is on", STATE, b::turnBack);
        b.begin(0, 18);
        b.tear();
        check.due("none of the chunks was moved", b.turnBack(), 0);
        check.due("it ended", b.move(0), -1);
        check.due("with its start", b.part(0, 0), 20);
        check.due("it does not count", b.count(10) + b.part(0, 6), 0);
        check.due("the areas are free", b.count(6), 54);
        b.begin(0, 18);
        b.run(1);
        check.throwsDue("a chunk is in the scratch area", STATE, b::turnBack);
        b.run(1);
        check.due("one chunk of three was moved", b.turnBack(), 2);
        int[] due = {0, 18, 20, 60, 4, 3, 2, 2, 0};
        for (int what = 0; what < due.length; what++) {
            check.due("move(" + what + ")", b.move(what), due[what]);
        }
        check.due("it is at FROM", b.part(0, 0), 18);
        check.due("the chunks exchange", b.place(0, 3) + " " + b.place(0, 4), "21 24");
        check.due("turned again", b.turnBack(), 3);
        check.due("FROM again", b.move(1) * 100 + b.part(0, 0), 2020);
        check.due("moved again", b.move(6), 1);
        check.due("turned a third time", b.turnBack(), 2);
        check.due("to the right, by the scratch area", b.nextStep(0) * 10 + b.nextStep(1), 10);
        check.due("run(9)", b.run(9), 2);
        check.due("at its first start", b.part(0, 0), 20);
        check.due("a move that goes back counts", b.count(10) * 10 + b.part(0, 6), 11);
        check.due("isWhole(0)", b.isWhole(0), true);

        PartitionBench right = Texts.bench(ONE);
        right.begin(0, 40);
        right.run(2);
        right.tear();
        check.due("two of three were moved", right.turnBack(), 2);
        check.due("ascending now", right.nextStep(1), 1);
        check.due("the one that was not moved counts as moved", right.place(0, 3), 23);
        right.lock(0, true);
        check.due("its end", right.run(5), 2);
        check.due("start", right.part(0, 0), 20);
        check.due("isWhole(0)", right.isWhole(0), true);
    }

    private static void promise34Move() {
        check.at("promise 34");
        PartitionBench b = Texts.bench("disk 64;part 0 2 0 1;part 20 10 1 4;");
        for (int what = 0; what < 9; what++) {
            check.due("without a move, move(" + what + ")", b.move(what), -1);
        }
        b.begin(1, 18);
        moveIs(b, 1, 20, 18, 60, 4, 3, 0, 5, 0);
        b.run(1);
        moveIs(b, 1, 20, 18, 60, 4, 3, 0, 4, 1);
        b.run(1);
        moveIs(b, 1, 20, 18, 60, 4, 3, 1, 3, 0);
        b.run(2);
        moveIs(b, 1, 20, 18, 60, 4, 3, 2, 1, 0);
        b.run(1);
        check.due("ended", b.move(6), -1);
        b.begin(1, 30);
        moveIs(b, 1, 18, 30, -1, 4, 3, 0, 3, 0);
        check.throwsDue("what 9", ARGUMENT, () -> b.move(9));
        check.throwsDue("what -1", ARGUMENT, () -> b.move(-1));
        check.throwsDue("what greatest", ARGUMENT, () -> b.move(BIG));
        check.throwsDue("what least", ARGUMENT, () -> b.move(LOW));
        PartitionBench none = new PartitionBench();
        check.throwsDue("what 9 without a move", ARGUMENT, () -> none.move(9));
        PartitionBench ones = Texts.bench("disk 64;part 20 8 1 4;");
        ones.begin(0, 30);
        check.due("two whole chunks", ones.move(5), 2);
    }

    private static void moveIs(PartitionBench b, int... due) {
        for (int what = 0; what < due.length; what++) {
            check.due("move(" + what + ")", b.move(what), due[what]);
        }
    }

    private static void promise35Leftmost() {
        check.at("promise 35");
        PartitionBench b = Texts.bench("disk 64;head 3;align 2;part 10 4 0 1;part 14 6 0 1;part 40 8 0 1;lock 2;");
        check.due("leftmost(0)", b.leftmost(0), 4);
        check.due("it jumps over its neighbour", b.leftmost(1), 4);
        check.due("locked", b.leftmost(2), -1);
        b.lock(2, false);
        check.due("no room ahead of the others", b.leftmost(2), 20);
        for (int part : new int[] {3, 8, -1}) {
            check.throwsDue("part " + part, NONE, () -> b.leftmost(part));
        }
        b.begin(0, 4);
        check.due("a move is on", b.leftmost(2), -1);
        b.run(9);
        check.due("at the left", b.leftmost(0), -1);
        PartitionBench tight = Texts.bench("disk 64;part 3 30 0 1;part 33 31 0 1;chunk 3;");
        check.due("3 far", tight.leftmost(0), 0);
        tight.set(4, 4);
        check.due("no scratch area", tight.leftmost(0), -1);
        PartitionBench far = Texts.bench("disk 600;part 599 1 0 1;");
        check.due("from the last sector", far.leftmost(0), 0);
        PartitionBench by = Texts.bench("disk 64;part 1 4 0 1;");
        check.due("one to the left", by.leftmost(0), 0);
    }

    private static void promise36Compact() {
        check.at("promise 36");
        PartitionBench b = Texts.bench("disk 64;align 2;part 20 4 0 1;part 4 3 0 1;part 10 6 0 1;");
        check.due("compact()", b.compact(), 3);
        check.due("print", Texts.print(b), "1[0,3] 2[4,6] 0[10,4]");
        check.due("steps", b.count(8), 1 + 2 + 1);
        check.due("moves ended", b.count(10), 3);
        check.due("its moves", b.part(0, 6) + b.part(1, 6) + b.part(2, 6), 3);
        check.due("one change", b.count(11), 1);
        check.due("verify()", b.verify(), 7);
        check.due("sector(13)", b.sector(13), 1003);
        check.due("nothing to do", b.compact(), 0);
        check.due("a change, too", b.count(11), 2);
        PartitionBench jump = Texts.bench("disk 64;part 4 10 0 1;lock 0;part 20 6 0 1;part 30 3 0 1;");
        check.due("with a locked one", jump.compact(), 2);
        check.due("print", Texts.print(jump), "2[0,3] 0[4,10]* 1[14,6]");
        // The order that stands at first: the second one jumps ahead, and the first one has had its turn.
        PartitionBench order = Texts.bench("disk 64;chunk 1;part 2 6 0 1;lock 0;part 8 4 0 1;part 12 2 0 1;part 20 2 0 1;");
        check.due("compact()", order.compact(), 2);
        check.due("print", Texts.print(order), "2[0,2] 0[2,6]* 1[8,4] 3[12,2]");
        order.begin(1, 40);
        check.throwsDue("a move is on", STATE, order::compact);
        PartitionBench beside = Texts.bench("disk 64;part 12 8 0 1;part 4 8 0 1;part 20 8 0 1;");
        check.due("side by side", beside.compact(), 3);
        check.due("print", Texts.print(beside), "1[0,8] 0[8,8] 2[16,8]");
        // The first one has no scratch area before the last one is moved; then it had its turn.
        PartitionBench turn = Texts.bench("disk 64;part 2 20 0 1;part 22 35 0 1;lock 1;part 60 3 0 1;");
        check.due("steps of one", turn.compactSteps(), 1);
        check.due("each one has one turn", turn.compact(), 1);
        check.due("print", Texts.print(turn), "0[2,20] 1[22,35]* 2[57,3]");
        check.due("the next time", turn.compact(), 1);
        check.due("print", Texts.print(turn), "0[0,20] 1[22,35]* 2[57,3]");
        check.due("of no partition", new PartitionBench().compact(), 0);
        StringBuilder eight = new StringBuilder("disk 64;");
        for (int i = 8; i > 0; i--) {
            eight.append("part ").append(i * 4).append(" 3 0 1;");
        }
        PartitionBench all = Texts.bench(eight.toString());
        check.due("eight", all.compact(), 8);
        check.due("print", Texts.print(all),
            "7[0,3] 6[3,3] 5[6,3] 4[9,3] 3[12,3] 2[15,3] 1[18,3] 0[21,3]");
        check.due("verify()", all.verify(), 255);
    }

    private static void promise37CompactSteps() {
        check.at("promise 37");
        PartitionBench b = Texts.bench("disk 64;align 2;part 20 4 0 1;part 4 3 0 1;part 10 6 0 1;");
        b.begin(0, 30);
        check.due("a move is on", b.compactSteps(), -1);
        b.run(5);
        check.due("one step was done", b.count(8), 1);
        String before = Texts.state(b);
        check.due("compactSteps()", b.compactSteps(), 4);
        check.due("it changes nothing", Texts.state(b), before);
        b.compact();
        check.due("steps done", b.count(8), 5);
        check.due("nothing to do", b.compactSteps(), 0);
        check.due("no partitions", new PartitionBench().compactSteps(), 0);
        check.due("by the scratch area", Texts.bench("disk 64;part 2 10 0 1;").compactSteps(), 5);
    }

    private static void promise38CheapestMove() {
        check.at("promise 38");
        PartitionBench b = Texts.bench("disk 64;part 10 10 0 1;part 30 10 0 1;");
        check.due("there is such a room", b.cheapestMove(24), -2);
        check.due("the smallest partition, then the smallest start", b.cheapestMove(25), 40);
        check.due("the hole of the first one is 30", b.cheapestMove(30), 40);
        check.due("the second one", b.cheapestMove(31), 1000);
        check.due("the hole of the second one is 44", b.cheapestMove(44), 1000);
        check.due("none brings it", b.cheapestMove(45), -1);
        check.due("none brings 600", b.cheapestMove(600), -1);
        check.due("size 1", b.cheapestMove(1), -2);
        check.throwsDue("size 0", ARGUMENT, () -> b.cheapestMove(0));
        check.throwsDue("size 601", ARGUMENT, () -> b.cheapestMove(601));
        check.throwsDue("size least", ARGUMENT, () -> b.cheapestMove(LOW));
        check.throwsDue("size greatest", ARGUMENT, () -> b.cheapestMove(BIG));
        // Usable are 5 to 59: 20 ahead of it and 25 behind it, 45 in all.
        PartitionBench ends = Texts.bench("disk 64;head 5;tail 4;part 25 10 0 1;");
        check.due("behind it without a move", ends.cheapestMove(25), -2);
        check.due("up to the tail", ends.cheapestMove(45), 5);
        check.due("not into the tail", ends.cheapestMove(46), -1);
        b.begin(0, 40);
        check.throwsDue("a move is on", STATE, () -> b.cheapestMove(5));
        check.throwsDue("size 0 while a move is on", ARGUMENT, () -> b.cheapestMove(0));

        PartitionBench fewest = Texts.bench("disk 64;part 10 12 0 1;part 32 4 0 1;");
        check.due("a single step of the second one", fewest.cheapestMove(30), 1000);
        fewest.lock(1, true);
        check.due("that one is locked", fewest.cheapestMove(30), 36);
        fewest.lock(0, true);
        check.due("all are locked", fewest.cheapestMove(30), -1);
        // Moved by less than its size, within the hole that it leaves.
        PartitionBench hole = Texts.bench("disk 64;part 20 30 0 1;chunk 16;");
        check.due("room behind it", hole.cheapestMove(24), 0);
        check.due("all the room", hole.cheapestMove(34), 0);
        check.due("none", hole.cheapestMove(35), -1);
        // Rooms count, not gaps: 8 to 31 has a room of 16 by ALIGN 16, and behind the move of 32.
        PartitionBench rooms = Texts.bench("disk 64;align 16;part 0 8 0 1;part 32 8 0 1;");
        check.due("a room of 16", rooms.cheapestMove(16), -2);
        check.due("32 by a move", rooms.cheapestMove(32), 48);
        check.due("more than the room, though not than the gap", rooms.cheapestMove(17), 48);
        rooms.lock(0, true);
        check.due("32 by a move of the other one", rooms.cheapestMove(32), 1016);
        check.due("48 by a move", rooms.cheapestMove(48), -1);
        holesHaveRooms();
        // The hole between the locked ones has 20 sectors.
        PartitionBench between = Texts.bench("disk 64;part 0 10 0 1;lock 0;part 20 4 0 1;part 30 10 0 1;lock 2;");
        check.due("the whole hole", between.cheapestMove(24), -2);
        check.due("more than the hole", between.cheapestMove(25), -1);
        // Side by side with a locked one, the hole of the first one has 14 sectors.
        PartitionBench beside = Texts.bench("disk 64;part 10 4 0 1;part 14 4 0 1;lock 1;");
        check.due("the gap behind both", beside.cheapestMove(46), -2);
        check.due("more than that", beside.cheapestMove(47), -1);
        PartitionBench first = Texts.bench("disk 64;part 30 4 0 1;part 38 4 0 1;part 46 14 0 1;");
        check.due("the first gap has the most room", first.cheapestMove(30), -2);
        PartitionBench left = Texts.bench("disk 65;align 8;part 16 9 0 1;");
        check.due("all the room ahead of it", left.cheapestMove(56), 56);
        check.due("more than that", left.cheapestMove(57), -1);
        check.due("no room at all", Texts.bench("disk 64;part 0 64 0 1;").cheapestMove(1), -1);
        check.due("no partitions", new PartitionBench().cheapestMove(64), -2);
        check.due("no partitions, too great", new PartitionBench().cheapestMove(65), -1);
    }

    /** The sectors that a partition leaves have a room, too: those from the first multiple of ALIGN on. */
    private static void holesHaveRooms() {
        // The hole of the second one is 4 to 23, with a room of 16; its gap ahead has a room of 8, the one behind it 16.
        PartitionBench far = Texts.bench("disk 64;part 0 4 0 1;lock 0;part 16 8 0 1;part 24 24 0 1;lock 2;");
        far.set(3, 8);
        check.due("as much as there is", far.cheapestMove(16), -2);
        check.due("no more by a move", far.cheapestMove(17), -1);
        far.set(3, 4);
        check.due("ALIGN 4: the whole hole", far.cheapestMove(20), 1048);
        check.due("ALIGN 4: no more", far.cheapestMove(21), -1);
        // Within its hole of 4 to 63: ahead of it a room from 8 on.
        PartitionBench within = Texts.bench("disk 64;part 0 4 0 1;lock 0;part 24 16 0 1;");
        within.set(3, 8);
        check.due("behind and ahead of it", within.cheapestMove(24), -2);
        check.due("to the right: 8 to 47", within.cheapestMove(40), 1008);
        check.due("no more than 40", within.cheapestMove(41), -1);
    }

    private static void promise44BlocksAt() {
        check.at("promise 44");
        PartitionBench b = Texts.bench(ONE);
        check.due("no move is on", b.blocksAt(0) + b.blocksAt(1) + b.blocksAt(2), -3);
        check.throwsDue("where 3 without a move", ARGUMENT, () -> b.blocksAt(3));
        check.throwsDue("where greatest", ARGUMENT, () -> b.blocksAt(BIG));
        check.throwsDue("where least", ARGUMENT, () -> b.blocksAt(LOW));
        b.begin(0, 22);
        String[] due = {"0 0 10", "2 0 8", "2 4 4", "6 0 4", "6 4 0"};
        for (int step = 0; step < due.length; step++) {
            b.tear();
            check.due("behind step " + step, b.blocksAt(0) + " " + b.blocksAt(1) + " " + b.blocksAt(2), due[step]);
            if (step == 3) {
                b.turnBack();
                check.due("turned back", b.blocksAt(0) + " " + b.blocksAt(1) + " " + b.blocksAt(2), "4 0 6");
                b.turnBack();
            }
            check.throwsDue("where 3", ARGUMENT, () -> b.blocksAt(3));
            check.throwsDue("where -1", ARGUMENT, () -> b.blocksAt(-1));
            b.run(1);
        }
        check.due("ended", b.blocksAt(0), -1);
        PartitionBench small = Texts.bench("disk 64;part 20 6 0 1;");
        small.begin(0, 21);
        small.run(1);
        check.due("a short chunk in the scratch area", small.blocksAt(0) + " " + small.blocksAt(1) + " " + small.blocksAt(2),
            "0 2 4");
    }

    private static void promise51BestChunk() {
        check.at("promise 51");
        PartitionBench b = Texts.bench(ONE);
        int[][] due = {{18, 10}, {0, 10}, {10, 10}, {40, 10}, {19, 10}, {20, -1}, {55, -1}, {BIG, -1}, {LOW, -1}};
        for (int[] d : due) {
            check.due("bestChunk(0, " + d[0] + ")", b.bestChunk(0, d[0]), d[1]);
        }
        b.set(4, 1);
        check.due("whatever CHUNK is", b.bestChunk(0, 18), 10);
        check.due("CHUNK stays", b.count(4), 1);
        for (int part : new int[] {1, 8, -1}) {
            check.throwsDue("part " + part, NONE, () -> b.bestChunk(part, 4));
        }
        PartitionBench tight = Texts.bench(TIGHT);
        // Chunks of 3 have a scratch area; those of 4 have none.
        check.due("1 far", tight.bestChunk(1, 31), 3);
        check.due("2 far: chunks of 2 go directly", tight.bestChunk(1, 32), 2);
        check.due("4 far", tight.bestChunk(1, 34), 4);
        PartitionBench full = Texts.bench("disk 64;part 0 63 0 1;");
        check.due("only chunks of 1", full.bestChunk(0, 1), 1);
        check.due("no CHUNK for what is not usable", full.bestChunk(0, 2), -1);
        check.due("one block", Texts.bench("disk 64;part 0 1 0 1;").bestChunk(0, 1), 1);
        check.due("more than 16 blocks", Texts.bench("disk 64;part 0 17 0 1;").bestChunk(0, 40), 9);
        check.due("16 and more", Texts.bench("disk 64;part 0 32 0 1;").bestChunk(0, 32), 16);
        b.lock(0, true);
        check.due("locked", b.bestChunk(0, 18), -1);
        b.lock(0, false);
        b.begin(0, 0);
        check.due("a move is on", b.bestChunk(0, 18), -1);
    }

    private static void promise52Rightmost() {
        check.at("promise 52");
        PartitionBench b = Texts.bench("disk 64;tail 3;align 2;part 10 4 0 1;part 40 6 0 1;part 48 8 0 1;lock 2;");
        check.due("rightmost(0)", b.rightmost(0), 56);
        check.due("no room behind the others", b.rightmost(1), 42);
        check.due("locked", b.rightmost(2), -1);
        b.lock(2, false);
        check.due("rightmost(2)", b.rightmost(2), 52);
        for (int part : new int[] {3, 8, -1}) {
            check.throwsDue("part " + part, NONE, () -> b.rightmost(part));
        }
        b.begin(0, 56);
        check.due("a move is on", b.rightmost(0), -1);
        b.run(9);
        check.due("at the right", b.rightmost(0), -1);
        check.due("another one", b.rightmost(2), -1);
        PartitionBench far = Texts.bench("disk 600;part 0 1 0 1;");
        check.due("to the last sector", far.rightmost(0), 599);
        check.due("one to the right", Texts.bench("disk 64;part 59 4 0 1;part 0 4 0 1;").rightmost(0), 60);
        PartitionBench tight = Texts.bench("disk 64;part 0 30 0 1;part 30 31 0 1;chunk 3;");
        check.due("3 far", tight.rightmost(1), 33);
        tight.set(4, 4);
        check.due("no scratch area", tight.rightmost(1), -1);
    }

    private static void promise56NextStep() {
        check.at("promise 56");
        PartitionBench b = Texts.bench(ONE);
        for (int what = 0; what < 4; what++) {
            check.due("no move is on", b.nextStep(what), -1);
        }
        check.throwsDue("what 4 without a move", ARGUMENT, () -> b.nextStep(4));
        check.throwsDue("what -1 without a move", ARGUMENT, () -> b.nextStep(-1));
        b.begin(0, 22);
        steps(b, "0 2 8 2", "1 1 4 4", "2 1 4 4", "1 0 0 4", "2 0 0 4");
        check.due("ended", b.nextStep(0), -1);
        b.begin(0, 19);
        steps(b, "1 0 0 4", "2 0 0 4", "1 1 4 4", "2 1 4 4", "0 2 8 2");
        b.begin(0, 23);
        steps(b, "0 2 8 2", "0 1 4 4", "0 0 0 4");
        check.throwsDue("what 4", ARGUMENT, () -> b.nextStep(4));
        check.throwsDue("what greatest", ARGUMENT, () -> b.nextStep(BIG));
        check.throwsDue("what least", ARGUMENT, () -> b.nextStep(LOW));
    }

    private static void steps(PartitionBench b, String... due) {
        for (String step : due) {
            b.tear();
            check.due("next step", b.nextStep(0) + " " + b.nextStep(1) + " " + b.nextStep(2) + " " + b.nextStep(3), step);
            check.throwsDue("what -1", ARGUMENT, () -> b.nextStep(-1));
            b.run(1);
        }
    }

    private static void promise57StepSector() {
        check.at("promise 57");
        PartitionBench b = Texts.bench(ONE);
        check.due("no move is on", b.stepSector(0, true) + b.stepSector(0, false), -2);
        b.begin(0, 22);
        String[] due = {"28-30 29-31 ", "24-60 25-61 26-62 27-63 ", "60-26 61-27 62-28 63-29 ",
            "20-60 21-61 22-62 23-63 ", "60-22 61-23 62-24 63-25 "};
        for (String step : due) {
            String sectors = "";
            for (int i = 0; i < b.nextStep(3); i++) {
                sectors += b.stepSector(i, false) + "-" + b.stepSector(i, true) + " ";
            }
            check.due("sectors", sectors, step);
            for (int index : new int[] {-1, b.nextStep(3), BIG, LOW}) {
                check.due("index " + index, b.stepSector(index, true) + b.stepSector(index, false), -2);
            }
            b.run(1);
        }
        check.due("ended", b.stepSector(0, true), -1);
        b.begin(0, 44);
        b.run(1);
        b.turnBack();
        check.due("turned back: the last chunk, from FROM to TO", b.nextStep(1) + " " + b.stepSector(0, false) + " "
            + b.stepSector(0, true) + " " + b.stepSector(3, false) + " " + b.stepSector(3, true), "2 52 30 -1 -1");
    }
}

import java.util.NoSuchElementException;

/** Promises 19 to 27 and 46 to 50: making, changing and removing partitions. */
public final class PartsTest {
    private static final Check check = new Check();
    private static final Class<IllegalArgumentException> ARGUMENT = IllegalArgumentException.class;
    private static final Class<IllegalStateException> STATE = IllegalStateException.class;
    private static final Class<NoSuchElementException> NONE = NoSuchElementException.class;
    private static final int BIG = Integer.MAX_VALUE;
    private static final int LOW = Integer.MIN_VALUE;
    /** Usable are 2 to 97. */
    private static final String TEXT = "disk 100;head 2;tail 2;align 2;"
        + "part 10 10 1 4;part 20 6 1 2;part 30 8 2 8;part 50 10 3 1;lock 3;";
    private static final String EIGHT = "disk 64;part 0 2 0 1;part 2 2 0 1;part 4 2 0 1;part 6 2 0 1;part 8 2 0 1;"
        + "part 10 2 0 1;part 12 2 0 1;part 14 2 0 1;";

    public static void main(String[] args) {
        promise19Add();
        numbersGivenAgain();
        promise20AddBy();
        promise21Remove();
        promise22Lock();
        promise23ResizeReason();
        promise24Resize();
        promise25SetMinimum();
        promise26GrowsTo();
        promise27Set();
        promise46Split();
        promise47Join();
        promise48ShrinkAll();
        promise49Wipe();
        promise50RoundUp();
        check.end();
    }

    private static void properties(PartitionBench b, int part, int... due) {
        for (int what = 0; what < due.length; what++) {
            check.due("part(" + part + ", " + what + ")", b.part(part, what), due[what]);
        }
    }

    private static void promise19Add() {
        check.at("promise 19");
        PartitionBench b = Texts.bench(TEXT);
        check.due("add", b.add(70, 5, 9, 3), 4);
        properties(b, 4, 70, 5, 3, 9, 0, 4, 0);
        check.due("its first number", b.sector(70), 5000);
        check.due("its last number", b.sector(74), 5004);
        check.due("not behind it", b.sector(75), 0);
        b.lock(1, false);
        b.begin(1, 80);
        b.run(99);
        b.remove(1);
        check.due("the smallest number that is free", b.add(2, 8, 0, 8), 1);
        properties(b, 1, 2, 8, 8, 0, 0, 5, 0);
        check.due("minimum 1", b.add(90, 8, 0, 1), 5);
        check.throwsDue("kind 10", ARGUMENT, () -> b.add(80, 2, 10, 1));
        check.throwsDue("kind -1", ARGUMENT, () -> b.add(80, 2, -1, 1));
        check.throwsDue("kind greatest", ARGUMENT, () -> b.add(80, 2, BIG, 1));
        check.throwsDue("kind least", ARGUMENT, () -> b.add(80, 2, LOW, 1));
        check.throwsDue("minimum greatest", ARGUMENT, () -> b.add(80, 2, 0, BIG));
        check.throwsDue("minimum least", ARGUMENT, () -> b.add(80, 2, 0, LOW));
        check.throwsDue("one sector of the tail", ARGUMENT, () -> b.add(96, 3, 0, 1));
        check.throwsDue("a start below 0", ARGUMENT, () -> b.add(-2, 4, 0, 1));
        check.throwsDue("the least start", ARGUMENT, () -> b.add(LOW, 2, 0, 1));
        check.throwsDue("minimum 0", ARGUMENT, () -> b.add(80, 2, 0, 0));
        check.throwsDue("minimum 3 of 2", ARGUMENT, () -> b.add(80, 2, 0, 3));
        check.throwsDue("not usable", ARGUMENT, () -> b.add(0, 2, 0, 1));
        check.throwsDue("not of the disk", ARGUMENT, () -> b.add(100, 2, 0, 1));
        check.throwsDue("not aligned", ARGUMENT, () -> b.add(81, 2, 0, 1));
        check.throwsDue("taken", ARGUMENT, () -> b.add(18, 4, 0, 1));
        check.throwsDue("size 0", ARGUMENT, () -> b.add(80, 0, 0, 1));
        check.throwsDue("size -1", ARGUMENT, () -> b.add(80, -1, 0, -1));
        check.throwsDue("a great size", ARGUMENT, () -> b.add(80, BIG, 0, 1));
        check.throwsDue("a great start", ARGUMENT, () -> b.add(BIG, BIG, 0, 1));
        b.begin(0, 76);
        check.throwsDue("busy", ARGUMENT, () -> b.add(84, 4, 0, 1));
        check.due("beside what is busy", b.add(86, 4, 0, 1), 6);
        PartitionBench eight = Texts.bench(EIGHT);
        check.throwsDue("a ninth", STATE, () -> eight.add(20, 2, 0, 1));
        check.throwsDue("a ninth with a wrong kind", ARGUMENT, () -> eight.add(20, 2, 10, 1));
        check.throwsDue("a ninth on a taken area", ARGUMENT, () -> eight.add(0, 2, 0, 1));
        eight.remove(5);
        check.due("the number that is free", eight.add(20, 2, 0, 1), 5);
        check.due("its serial", eight.part(5, 5), 8);
    }

    /** Numbers 0 and 1 are given a second time: they are neither the serials nor the order of the starts. */
    private static PartitionBench again() {
        PartitionBench b = Texts.bench("disk 100;part 0 8 1 2;part 10 8 2 3;part 20 8 1 1;part 30 8 1 1;");
        b.remove(1);
        b.remove(0);
        b.add(50, 8, 1, 1);
        b.add(58, 8, 1, 8);
        return b;
    }

    private static void numbersGivenAgain() {
        check.at("numbers that are given again");
        PartitionBench b = again();
        properties(b, 0, 50, 8, 1, 1, 0, 4, 0);
        properties(b, 1, 58, 8, 8, 1, 0, 5, 0);
        check.due("sectors", b.sector(50) + " " + b.sector(65), "5000 6007");
        check.due("what the first ones left is none of them", b.copies(0) + b.copies(1), 0);
        check.due("byStart", "" + b.byStart(0) + b.byStart(1) + b.byStart(2) + b.byStart(3) + b.byStart(4), "2301-1");
        check.due("behind", "" + b.behind(2) + b.behind(3) + b.behind(0) + b.behind(1), "301-1");
        check.due("owner", "" + b.owner(0) + b.owner(50) + b.owner(58) + b.owner(20), "-1012");
        check.due("overlapped", b.overlapped(0, 50) + " " + b.overlapped(57, 2) + " " + b.overlapped(65, 9), "12 3 2");
        check.due("print", Texts.print(b), "2[20,8] 3[30,8] 0[50,8] 1[58,8]");
        check.due("verify()", b.verify(), 15);
        check.due("a partition is not in its own way", b.moveReason(1, 62) * 10 + b.resizeReason(1, 42), 0);
        check.due("another one is", b.moveReason(0, 51) * 10 + b.resizeReason(0, 9), 65);
        check.due("cheapestMove", b.cheapestMove(41), 1000);
        b.begin(1, 80);
        b.run(1);
        check.due("owner in a move", b.owner(84) + " " + b.owner(58), "1 1");
        check.due("print in a move", Texts.print(b), "2[20,8] 3[30,8] 0[50,8] 1[58,8]>");
        b.run(1);
        b.saveState();
        b.remove(0);
        b.restoreState();
        check.due("serials of the saved state", b.part(0, 5) + " " + b.part(1, 5) + " " + b.verify(), "4 5 15");
        b.remove(0);
        b.undo();
        check.due("serials of what is undone", b.part(0, 5) + " " + b.part(1, 5) + " " + b.verify(), "4 5 15");
        check.due("compactSteps()", again().compactSteps(), 8);
        PartitionBench packed = again();
        check.due("compact()", packed.compact(), 4);
        check.due("print then", Texts.print(packed), "2[0,8] 3[8,8] 0[16,8] 1[24,8]");
        PartitionBench joined = again();
        check.due("join", joined.join(0), 1);
        check.due("joined", joined.sector(65) + " " + joined.owner(65), "5015 0");
        check.due("the next number", joined.add(80, 1, 0, 1) * 10 + joined.part(1, 5), 16);
    }

    private static void promise20AddBy() {
        check.at("promise 20");
        PartitionBench b = Texts.bench(TEXT);
        // Gaps: 2 to 9, 26 to 29, 38 to 49, 60 to 97.
        check.due("rule 0", b.addBy(3, 4, 2, 0), 4);
        properties(b, 4, 2, 3, 2, 4, 0, 4, 0);
        check.due("its number", b.sector(4), 5002);
        check.due("rule 1", b.addBy(3, 4, 3, 1), 5);
        check.due("rule 1 at", b.part(5, 0), 6);
        check.due("rule 2", b.addBy(3, 4, 1, 2), 6);
        check.due("rule 2 at", b.part(6, 0), 60);
        check.throwsDue("no start", STATE, () -> b.addBy(40, 0, 1, 0));
        for (int rule = 0; rule < 3; rule++) {
            int r = rule;
            check.throwsDue("one more than the most room, rule " + r, STATE, () -> b.addBy(35, 0, 1, r));
        }
        check.throwsDue("no start for a great size", STATE, () -> b.addBy(BIG, 0, 1, 0));
        check.throwsDue("size 0", ARGUMENT, () -> b.addBy(0, 0, 1, 0));
        check.throwsDue("kind 10", ARGUMENT, () -> b.addBy(2, 10, 1, 0));
        check.throwsDue("kind -1", ARGUMENT, () -> b.addBy(2, -1, 1, 0));
        check.throwsDue("minimum 0", ARGUMENT, () -> b.addBy(2, 0, 0, 0));
        check.throwsDue("minimum 3 of 2", ARGUMENT, () -> b.addBy(2, 0, 3, 0));
        check.throwsDue("rule 3", ARGUMENT, () -> b.addBy(2, 0, 1, 3));
        check.throwsDue("rule -1", ARGUMENT, () -> b.addBy(2, 0, 1, -1));
        check.throwsDue("rule greatest", ARGUMENT, () -> b.addBy(2, 0, 1, BIG));
        check.throwsDue("size -1", ARGUMENT, () -> b.addBy(-1, 0, -1, 0));
        check.throwsDue("size least", ARGUMENT, () -> b.addBy(LOW, 0, LOW, 0));
        check.throwsDue("rule 3, no start", ARGUMENT, () -> b.addBy(90, 0, 1, 3));
        check.due("minimum and size", b.addBy(2, 0, 2, 0), 7);
        check.throwsDue("a ninth", STATE, () -> b.addBy(1, 0, 1, 0));
        check.throwsDue("a ninth with a wrong kind", ARGUMENT, () -> b.addBy(1, 10, 1, 0));
        check.throwsDue("a ninth with a wrong rule", ARGUMENT, () -> b.addBy(1, 0, 1, 3));
        for (int rule = 0; rule < 3; rule++) {
            PartitionBench room = Texts.bench(TEXT);
            check.due("just the most room, rule " + rule, room.addBy(38, 9, 38, rule), 4);
            check.due("its start", room.part(4, 0), 60);
        }
        PartitionBench first = new PartitionBench();
        check.throwsDue("more than the disk", STATE, () -> first.addBy(65, 0, 64, 0));
        check.due("at sector 0", first.addBy(64, 0, 64, 0), 0);
        check.throwsDue("no gap is left", STATE, () -> first.addBy(1, 0, 1, 2));
    }

    private static void promise21Remove() {
        check.at("promise 21");
        PartitionBench b = Texts.bench(TEXT);
        check.due("remove", b.remove(1), 6);
        check.throwsDue("it is gone", NONE, () -> b.part(1, 0));
        check.due("its sectors keep what they hold", b.sector(20), 2000);
        check.due("no owner", b.owner(20), -1);
        check.due("partitions", b.count(5), 3);
        check.throwsDue("again", NONE, () -> b.remove(1));
        check.throwsDue("part 8", NONE, () -> b.remove(8));
        check.throwsDue("part -1", NONE, () -> b.remove(-1));
        check.throwsDue("locked", STATE, () -> b.remove(3));
        b.begin(0, 70);
        check.throwsDue("moved", STATE, () -> b.remove(0));
        check.due("another one while one is moved", b.remove(2), 8);
        b.lock(0, true);
        check.throwsDue("locked and moved", STATE, () -> b.remove(0));
        b.lock(0, false);
        b.turnBack();
        check.due("moved no more", b.remove(0), 10);
        b.lock(3, false);
        check.due("freed", b.remove(3), 10);
        check.due("none is left", b.count(5), 0);
    }

    private static void promise22Lock() {
        check.at("promise 22");
        PartitionBench b = Texts.bench(TEXT);
        check.due("lock(0, true)", b.lock(0, true), false);
        check.due("locked", b.part(0, 4), 1);
        check.due("again", b.lock(0, true), true);
        check.due("lock(0, false)", b.lock(0, false), true);
        check.due("freed", b.part(0, 4), 0);
        check.due("again", b.lock(0, false), false);
        check.due("each is a change", b.count(11), 4);
        for (int part : new int[] {4, 8, -1}) {
            check.throwsDue("part " + part, NONE, () -> b.lock(part, true));
        }
        b.begin(0, 70);
        b.lock(0, true);
        check.due("its move goes on", b.run(99), 3);
        check.due("at TO", b.part(0, 0), 70);
        check.due("still locked", b.part(0, 4), 1);
    }

    private static void promise23ResizeReason() {
        check.at("promise 23");
        PartitionBench b = Texts.bench(TEXT);
        int[][] due = {{0, 10, 0}, {0, 4, 0}, {0, 3, 3}, {0, 0, 3}, {0, LOW, 3}, {0, 11, 5}, {0, 88, 5}, {0, 89, 4},
            {0, BIG, 4}, {1, 10, 0}, {1, 11, 5}, {1, 2, 0}, {1, 1, 3}, {2, 20, 0}, {2, 21, 5}, {2, 7, 3}, {3, 10, 1},
            {3, 0, 1}, {3, 99, 1}};
        for (int[] d : due) {
            check.due("resizeReason(" + d[0] + ", " + d[1] + ")", b.resizeReason(d[0], d[1]), d[2]);
        }
        b.lock(3, false);
        check.due("up to the tail", b.resizeReason(3, 48), 0);
        check.due("into the tail", b.resizeReason(3, 49), 4);
        for (int part : new int[] {4, 8, -1}) {
            check.throwsDue("part " + part, NONE, () -> b.resizeReason(part, 1));
        }
        // TO is 40 to 45; no scratch area is needed.
        b.begin(1, 40);
        int[][] moving = {{1, 6, 2}, {1, 0, 2}, {2, 10, 0}, {2, 11, 6}, {2, 20, 6}, {2, 21, 5}, {2, 99, 4}, {2, 7, 3},
            {0, 11, 5}, {2, 8, 0}};
        for (int[] d : moving) {
            check.due("while one is moved, resizeReason(" + d[0] + ", " + d[1] + ")", b.resizeReason(d[0], d[1]), d[2]);
        }
        b.lock(1, true);
        check.due("locked and moved", b.resizeReason(1, 6), 1);
        PartitionBench scratch = Texts.bench("disk 64;part 10 8 0 1;part 40 4 0 1;");
        scratch.begin(0, 9);
        check.due("up to the scratch area", scratch.resizeReason(1, 20), 0);
        check.due("into the scratch area", scratch.resizeReason(1, 21), 6);
    }

    private static void promise24Resize() {
        check.at("promise 24");
        PartitionBench b = Texts.bench(TEXT);
        b.remove(1);
        check.due("resize(0, 15)", b.resize(0, 15), 10);
        check.due("its size", b.part(0, 1), 15);
        check.due("its last number is written", b.sector(24), 1014);
        check.due("what is behind it stays", b.sector(25), 2005);
        check.due("resize(0, 4)", b.resize(0, 4), 15);
        check.due("its sectors keep what they hold", b.sector(14), 1004);
        check.due("resize(0, 4) again", b.resize(0, 4), 4);
        check.due("start and minimum stay", b.part(0, 0) + b.part(0, 2), 14);
        check.throwsDue("less than its minimum", STATE, () -> b.resize(0, 3));
        check.throwsDue("taken", STATE, () -> b.resize(0, 21));
        check.throwsDue("not usable", STATE, () -> b.resize(0, BIG));
        check.throwsDue("size 0", STATE, () -> b.resize(0, 0));
        check.throwsDue("size least", STATE, () -> b.resize(0, LOW));
        check.throwsDue("locked", STATE, () -> b.resize(3, 11));
        check.throwsDue("part 1", NONE, () -> b.resize(1, 1));
        check.throwsDue("part 8", NONE, () -> b.resize(8, 1));
        check.throwsDue("part -1", NONE, () -> b.resize(-1, 1));
        b.begin(0, 26);
        check.throwsDue("moved", STATE, () -> b.resize(0, 5));
        b.resize(2, 12);
        check.due("another one while one is moved", b.sector(41), 3011);
        b.turnBack();
        b.begin(0, 46);
        check.throwsDue("busy", STATE, () -> b.resize(2, 17));
        check.due("up to what is busy", b.resize(2, 16), 12);
        b.lock(3, false);
        check.throwsDue("one sector of the tail", STATE, () -> b.resize(3, 49));
        check.due("up to the tail", b.resize(3, 48), 10);
        check.due("down to its minimum", b.resize(3, 1), 48);
    }

    private static void promise25SetMinimum() {
        check.at("promise 25");
        PartitionBench b = Texts.bench(TEXT);
        check.due("setMinimum(0, 10)", b.setMinimum(0, 10), 4);
        check.due("setMinimum(0, 1)", b.setMinimum(0, 1), 10);
        check.due("its minimum", b.part(0, 2), 1);
        check.due("of one that is locked", b.setMinimum(3, 5), 1);
        check.throwsDue("minimum 0", ARGUMENT, () -> b.setMinimum(0, 0));
        check.throwsDue("minimum 11", ARGUMENT, () -> b.setMinimum(0, 11));
        check.throwsDue("minimum least", ARGUMENT, () -> b.setMinimum(0, LOW));
        check.throwsDue("minimum greatest", ARGUMENT, () -> b.setMinimum(0, BIG));
        check.throwsDue("part 4, minimum greatest", NONE, () -> b.setMinimum(4, BIG));
        check.throwsDue("part 4", NONE, () -> b.setMinimum(4, 1));
        check.throwsDue("part 4, minimum 0", NONE, () -> b.setMinimum(4, 0));
        check.throwsDue("part 8", NONE, () -> b.setMinimum(8, 0));
        check.throwsDue("part -1", NONE, () -> b.setMinimum(-1, 1));
        b.begin(0, 70);
        check.due("of one that is moved", b.setMinimum(0, 3), 1);
        PartitionBench far = Texts.bench("disk 64;part 30 4 0 1;");
        check.throwsDue("one more than the size", ARGUMENT, () -> far.setMinimum(0, 5));
        check.due("the size", far.setMinimum(0, 4), 1);
        PartitionBench first = Texts.bench("disk 64;part 0 4 0 1;");
        check.due("the size of one at sector 0", first.setMinimum(0, 4), 1);
    }

    private static void promise26GrowsTo() {
        check.at("promise 26");
        PartitionBench b = Texts.bench(TEXT);
        check.due("growsTo(0)", b.growsTo(0), 10);
        check.due("growsTo(1)", b.growsTo(1), 10);
        check.due("growsTo(2)", b.growsTo(2), 20);
        check.due("growsTo(3), locked", b.growsTo(3), 48);
        for (int part : new int[] {4, 8, -1}) {
            check.throwsDue("part " + part, NONE, () -> b.growsTo(part));
        }
        b.begin(1, 22);
        check.due("into its own TO", b.growsTo(1), 6);
        b.turnBack();
        b.begin(1, 60);
        check.due("moved far away", b.growsTo(1), 10);
        check.due("up to TO", b.growsTo(3), 10);
        check.due("the whole disk", Texts.bench("disk 600;part 0 1 0 1;").growsTo(0), 600);
        check.due("full already", Texts.bench("disk 64;part 0 64 0 1;").growsTo(0), 64);
        check.due("the last usable sector", Texts.bench("disk 64;tail 3;part 60 1 0 1;").growsTo(0), 1);
        PartitionBench scratch = Texts.bench("disk 64;part 10 8 0 1;part 40 4 0 1;");
        scratch.begin(0, 9);
        check.due("up to the scratch area", scratch.growsTo(1), 20);
        check.due("moved to the left", scratch.growsTo(0), 30);
    }

    private static void promise27Set() {
        check.at("promise 27");
        PartitionBench b = Texts.bench(TEXT);
        check.due("set(3, 32)", b.set(3, 32), 2);
        check.due("set(3, 1)", b.set(3, 1), 32);
        check.due("set(4, 16)", b.set(4, 16), 4);
        check.due("set(4, 1)", b.set(4, 1), 16);
        check.due("ALIGN and CHUNK", b.count(3) * 100 + b.count(4), 101);
        int[][] wrong = {{3, 0}, {3, 33}, {3, -1}, {4, 0}, {4, 17}, {4, LOW}, {2, 1}, {5, 1}, {0, 64}, {-3, 1}, {BIG, 1},
            {3, BIG}, {3, LOW}, {4, -1}, {4, BIG}, {4, 32}, {1, 1}, {LOW, 1}};
        for (int[] w : wrong) {
            check.throwsDue("set(" + w[0] + ", " + w[1] + ")", ARGUMENT, () -> b.set(w[0], w[1]));
        }
        check.due("as before", b.count(3) * 100 + b.count(4), 101);
        b.set(4, 4);
        b.begin(0, 60);
        b.set(3, 7);
        b.set(4, 2);
        check.due("CHUNK of the move that is on", b.move(4), 4);
        check.due("its steps", b.run(99), 3);
        check.due("where it ends", b.part(0, 0), 60);
        check.due("partitions stay", b.part(1, 0), 20);
        check.due("the new ALIGN", b.moveReason(1, 2), 5);
        check.due("the new CHUNK", b.stepsFor(1, 7), 3);
    }

    private static void promise46Split() {
        check.at("promise 46");
        PartitionBench b = Texts.bench(TEXT);
        b.begin(0, 80);
        b.run(99);
        b.remove(1);
        check.due("split(0, 4)", b.split(0, 4), 1);
        properties(b, 0, 80, 4, 4, 1, 0, 0, 1);
        properties(b, 1, 84, 6, 1, 1, 0, 4, 0);
        check.due("the last one that it keeps", b.sector(83), 1003);
        check.due("the first number of the new one", b.sector(84), 5000);
        check.due("the last number of the new one", b.sector(89), 5005);
        check.due("verify()", b.verify(), 15);
        check.throwsDue("less than its minimum", ARGUMENT, () -> b.split(0, 3));
        check.throwsDue("its size", ARGUMENT, () -> b.split(0, 4));
        check.throwsDue("a great size", ARGUMENT, () -> b.split(1, BIG));
        check.throwsDue("size 0", ARGUMENT, () -> b.split(1, 0));
        check.throwsDue("size least", ARGUMENT, () -> b.split(1, LOW));
        check.throwsDue("not aligned", STATE, () -> b.split(1, 3));
        check.throwsDue("locked", STATE, () -> b.split(3, 2));
        check.throwsDue("locked and out of range", ARGUMENT, () -> b.split(3, 10));
        check.throwsDue("locked and not aligned", STATE, () -> b.split(3, 3));
        check.throwsDue("locked, one less than its size, not aligned", STATE, () -> b.split(3, 9));
        check.due("no rest is left of one sector", Check.outcome(() -> Texts.bench("disk 64;part 0 1 0 1;").split(0, 1)),
            "throws IllegalArgumentException");
        check.throwsDue("part 4", NONE, () -> b.split(4, 2));
        check.throwsDue("part 4, size -1", NONE, () -> b.split(4, -1));
        check.throwsDue("part 8", NONE, () -> b.split(8, 2));
        check.throwsDue("part -1", NONE, () -> b.split(-1, 2));
        b.begin(1, 60);
        check.throwsDue("moved", STATE, () -> b.split(1, 2));
        b.setMinimum(2, 1);
        check.due("another one while one is moved", b.split(2, 2), 4);
        b.turnBack();
        check.due("the greatest size", b.split(1, 4), 5);
        check.due("a rest of 2", b.part(5, 1), 2);
        PartitionBench odd = Texts.bench("disk 64;part 10 10 0 1;");
        odd.set(3, 7);
        check.due("a start that is no multiple itself", odd.split(0, 4), 1);
        check.throwsDue("not aligned, but 4 before the start", STATE, () -> odd.split(0, 3));
        PartitionBench eight = Texts.bench(EIGHT);
        check.throwsDue("a ninth", STATE, () -> eight.split(0, 1));
        check.throwsDue("a ninth, size 2", ARGUMENT, () -> eight.split(0, 2));
        eight.remove(3);
        check.due("a rest of 1", eight.split(0, 1), 3);
    }

    private static void promise47Join() {
        check.at("promise 47");
        PartitionBench b = Texts.bench(TEXT);
        check.due("join(0)", b.join(0), 1);
        properties(b, 0, 10, 16, 4, 1, 0, 0, 0);
        check.throwsDue("it is removed", NONE, () -> b.part(1, 0));
        check.due("what it had", b.sector(19), 1009);
        check.due("what is new", b.sector(20), 1010);
        check.due("the last one", b.sector(25), 1015);
        check.due("isWhole(0)", b.isWhole(0), true);
        check.throwsDue("no neighbour", STATE, () -> b.join(0));
        check.throwsDue("none behind it", STATE, () -> b.join(3));
        check.throwsDue("part 1", NONE, () -> b.join(1));
        check.throwsDue("part 8", NONE, () -> b.join(8));
        check.throwsDue("part -1", NONE, () -> b.join(-1));
        b.resize(0, 19);
        check.throwsDue("one sector between them", STATE, () -> b.join(0));
        b.resize(0, 20);
        check.throwsDue("of another kind", STATE, () -> b.join(0));
        PartitionBench last = Texts.bench("disk 64;part 0 64 0 1;");
        check.throwsDue("up to the last sector", STATE, () -> last.join(0));
        PartitionBench other = Texts.bench("disk 64;part 8 8 9 1;part 0 8 0 1;lock 1;");
        check.throwsDue("locked and of another kind", STATE, () -> other.join(1));
        check.throwsDue("a neighbour ahead is none", STATE, () -> other.join(0));
        PartitionBench c = Texts.bench("disk 64;part 12 4 0 2;part 8 4 0 3;part 16 4 0 1;");
        c.lock(2, true);
        check.throwsDue("the neighbour is locked", STATE, () -> c.join(0));
        c.lock(2, false);
        c.lock(0, true);
        check.throwsDue("it is locked", STATE, () -> c.join(0));
        check.throwsDue("the neighbour is locked, too", STATE, () -> c.join(1));
        c.lock(0, false);
        c.begin(0, 40);
        check.throwsDue("it is moved", STATE, () -> c.join(0));
        check.throwsDue("the neighbour is moved", STATE, () -> c.join(1));
        c.turnBack();
        check.due("a smaller number is removed", c.join(1), 0);
        check.due("its numbers", c.sector(15), 2007);
        check.due("a second time", c.join(1), 2);
        properties(c, 1, 8, 12, 3, 0, 0, 1, 0);
    }

    private static void promise48ShrinkAll() {
        check.at("promise 48");
        PartitionBench b = Texts.bench(TEXT);
        check.due("shrinkAll()", b.shrinkAll(), 6 + 4);
        check.due("print", Texts.print(b), "0[10,4] 1[20,2] 2[30,8] 3[50,10]*");
        check.due("sectors keep what they hold", b.sector(19), 1009);
        check.due("nothing is left to lose", b.shrinkAll(), 0);
        b.lock(3, false);
        b.begin(3, 70);
        check.due("moved", b.shrinkAll(), 0);
        b.run(99);
        check.due("moved no more", b.shrinkAll(), 9);
        check.due("print", Texts.print(b), "0[10,4] 1[20,2] 2[30,8] 3[70,1]");
        check.due("each is a change", b.count(11), 7);
        check.due("no partitions", new PartitionBench().shrinkAll(), 0);
        PartitionBench most = Texts.bench("disk 600;part 0 600 0 1;");
        check.due("as much as can be", most.shrinkAll(), 599);
        check.due("one is left", most.part(0, 1), 1);
        most.lock(0, true);
        check.due("locked with its minimum", most.shrinkAll(), 0);
    }

    private static void promise49Wipe() {
        check.at("promise 49");
        PartitionBench b = Texts.bench(TEXT);
        check.due("nothing to wipe", b.wipe(), 0);
        b.remove(1);
        b.resize(0, 6);
        check.due("wipe()", b.wipe(), 6 + 4);
        check.due("what a removed one left", b.sector(20), 0);
        check.due("what one that was shrunk left", b.sector(16), 0);
        check.due("what is owned", b.sector(15), 1005);
        // 8 sectors from 30 by 2 to the right: two chunks of 4, the second one goes by the scratch area 94 to 97.
        b.begin(2, 32);
        b.tear();
        check.due("a torn step", b.wipe(), 2);
        b.run(1);
        check.due("the old places of a chunk in the scratch area", b.wipe(), 4);
        check.due("the scratch area is a place", b.sector(97), 3007);
        check.due("an old place", b.sector(34), 0);
        b.tear();
        check.due("a torn step again", b.wipe(), 2);
        b.run(99);
        check.due("isWhole(2)", b.isWhole(2), true);
        // What is left over: 30 and 31, and the second chunk's and the first one's copies in the scratch area.
        check.due("behind the move", b.wipe(), 2 + 4);
        check.due("the whole disk", Texts.bench("disk 64;part 0 64 0 1;").wipe(), 0);
        PartitionBench ends = Texts.bench("disk 64;part 0 1 0 1;part 63 1 0 1;");
        ends.remove(0);
        ends.remove(1);
        check.due("the first and the last sector", ends.wipe(), 2);
        check.due("are 0", ends.sector(0) + ends.sector(63), 0);
    }

    private static void promise50RoundUp() {
        check.at("promise 50");
        PartitionBench b = Texts.bench(TEXT);
        check.due("a multiple already", b.roundUp(1), 6);
        b.set(3, 4);
        check.due("roundUp(1)", b.roundUp(1), 8);
        check.due("its size", b.part(1, 1), 8);
        check.due("its last number is written", b.sector(27), 2007);
        check.throwsDue("taken", STATE, () -> b.roundUp(0));
        check.throwsDue("locked", STATE, () -> b.roundUp(3));
        check.due("a multiple already", b.roundUp(2), 8);
        b.set(3, 32);
        check.throwsDue("taken, too", STATE, () -> b.roundUp(2));
        for (int part : new int[] {4, 8, -1}) {
            check.throwsDue("part " + part, NONE, () -> b.roundUp(part));
        }
        b.set(3, 1);
        b.begin(1, 60);
        check.throwsDue("moved", STATE, () -> b.roundUp(1));
        check.due("another one while one is moved", b.roundUp(0), 10);
        b.lock(3, false);
        b.set(3, 7);
        check.throwsDue("busy", STATE, () -> b.roundUp(3));
        b.run(99);
        b.remove(1);
        check.due("busy no more", b.roundUp(3), 14);
        b.lock(3, true);
        check.throwsDue("locked, with the size already", STATE, () -> b.roundUp(3));
        PartitionBench end = Texts.bench("disk 64;tail 3;align 8;part 48 9 0 1;part 0 17 0 1;");
        check.throwsDue("into the tail", STATE, () -> end.roundUp(0));
        check.due("the state is as before", end.part(0, 1), 9);
        check.due("one more than a multiple", end.roundUp(1), 24);
        check.due("just a multiple", end.roundUp(1), 24);
        check.due("each is a change", end.count(11), 2);
        end.set(3, 12);
        end.resize(0, 11);
        check.due("one less than a multiple", end.roundUp(0), 12);
        end.begin(0, 36);
        end.resize(1, 12);
        check.throwsDue("moved, with the size already", STATE, () -> end.roundUp(0));
    }
}
